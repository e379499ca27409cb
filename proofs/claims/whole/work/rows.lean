section
-- ===== PART A: goes FIRST, ahead of the names: the tables' words, and 'selects' of the private methods out of them =====
/-- a private method of a class that the tables say can be made, by its rows of tables_1 -/
def lw_okq (q : MethodName × Nat) : Prop := (q.1.cls ≠ "java/lang/invoke/MethodHandle" ∧ q.1.cls ≠ "java/lang/invoke/VarHandle") ∧ Cond.instantiable q.1.cls q.2 ∈ tables_1 ∧ Cond.privateMethod q.1 ∈ tables_1 ∧ Cond.instanceMethod q.1 ∈ tables_1
theorem lw_p0 : lw_okq (⟨"StockLog", "readDisk", "()I"⟩, 9) := ⟨⟨by decide +kernel, by decide +kernel⟩, List.mem_of_getElem? (i := 16) (by decide +kernel), List.mem_of_getElem? (i := 113) (by decide +kernel), List.mem_of_getElem? (i := 114) (by decide +kernel)⟩
theorem lw_p1 : lw_okq (⟨"StockLog$Rows", "judgeNext", "(LStockLog$Cells;)I"⟩, 8) := ⟨⟨by decide +kernel, by decide +kernel⟩, List.mem_of_getElem? (i := 42) (by decide +kernel), List.mem_of_getElem? (i := 141) (by decide +kernel), List.mem_of_getElem? (i := 142) (by decide +kernel)⟩
theorem lw_p2 : lw_okq (⟨"StockLog$Rows", "isState", "(LStockLog$Cells;II)Z"⟩, 8) := ⟨⟨by decide +kernel, by decide +kernel⟩, List.mem_of_getElem? (i := 42) (by decide +kernel), List.mem_of_getElem? (i := 166) (by decide +kernel), List.mem_of_getElem? (i := 167) (by decide +kernel)⟩
theorem lw_p3 : lw_okq (⟨"StockLog$Rows", "enlistNext", "()V"⟩, 8) := ⟨⟨by decide +kernel, by decide +kernel⟩, List.mem_of_getElem? (i := 42) (by decide +kernel), List.mem_of_getElem? (i := 175) (by decide +kernel), List.mem_of_getElem? (i := 176) (by decide +kernel)⟩
theorem lw_p4 : lw_okq (⟨"java/lang/Throwable", "fillInStackTrace", "(I)Ljava/lang/Throwable;"⟩, 6) := ⟨⟨by decide +kernel, by decide +kernel⟩, List.mem_of_getElem? (i := 252) (by decide +kernel), List.mem_of_getElem? (i := 250) (by decide +kernel), List.mem_of_getElem? (i := 251) (by decide +kernel)⟩
theorem lw_p5 : lw_okq (⟨"StockLog", "refuseWhenDown", "()V"⟩, 9) := ⟨⟨by decide +kernel, by decide +kernel⟩, List.mem_of_getElem? (i := 16) (by decide +kernel), List.mem_of_getElem? (i := 282) (by decide +kernel), List.mem_of_getElem? (i := 283) (by decide +kernel)⟩
theorem lw_p6 : lw_okq (⟨"StockLog", "refuseOtherKind", "(I)V"⟩, 9) := ⟨⟨by decide +kernel, by decide +kernel⟩, List.mem_of_getElem? (i := 16) (by decide +kernel), List.mem_of_getElem? (i := 327) (by decide +kernel), List.mem_of_getElem? (i := 328) (by decide +kernel)⟩
theorem lw_p7 : lw_okq (⟨"StockLog", "refuseWhenFull", "(I)V"⟩, 9) := ⟨⟨by decide +kernel, by decide +kernel⟩, List.mem_of_getElem? (i := 16) (by decide +kernel), List.mem_of_getElem? (i := 333) (by decide +kernel), List.mem_of_getElem? (i := 334) (by decide +kernel)⟩
theorem lw_p8 : lw_okq (⟨"StockLog$Rows", "fillState", "()V"⟩, 8) := ⟨⟨by decide +kernel, by decide +kernel⟩, List.mem_of_getElem? (i := 42) (by decide +kernel), List.mem_of_getElem? (i := 358) (by decide +kernel), List.mem_of_getElem? (i := 359) (by decide +kernel)⟩
theorem lw_p9 : lw_okq (⟨"StockLog", "placeOf", "(II)I"⟩, 9) := ⟨⟨by decide +kernel, by decide +kernel⟩, List.mem_of_getElem? (i := 16) (by decide +kernel), List.mem_of_getElem? (i := 390) (by decide +kernel), List.mem_of_getElem? (i := 391) (by decide +kernel)⟩
theorem lw_p10 : lw_okq (⟨"StockLog", "byteOfRow", "(II)I"⟩, 9) := ⟨⟨by decide +kernel, by decide +kernel⟩, List.mem_of_getElem? (i := 16) (by decide +kernel), List.mem_of_getElem? (i := 450) (by decide +kernel), List.mem_of_getElem? (i := 451) (by decide +kernel)⟩
theorem lw_p11 : lw_okq (⟨"StockLogModel", "isFull", "(I)Z"⟩, 13) := ⟨⟨by decide +kernel, by decide +kernel⟩, List.mem_of_getElem? (i := 501) (by decide +kernel), List.mem_of_getElem? (i := 562) (by decide +kernel), List.mem_of_getElem? (i := 563) (by decide +kernel)⟩
theorem lw_p12 : lw_okq (⟨"StockLogModel", "head", "(II)I"⟩, 13) := ⟨⟨by decide +kernel, by decide +kernel⟩, List.mem_of_getElem? (i := 501) (by decide +kernel), List.mem_of_getElem? (i := 566) (by decide +kernel), List.mem_of_getElem? (i := 567) (by decide +kernel)⟩
theorem lw_p13 : lw_okq (⟨"StockLogModel", "close", "(I)V"⟩, 13) := ⟨⟨by decide +kernel, by decide +kernel⟩, List.mem_of_getElem? (i := 501) (by decide +kernel), List.mem_of_getElem? (i := 570) (by decide +kernel), List.mem_of_getElem? (i := 571) (by decide +kernel)⟩
theorem lw_p14 : lw_okq (⟨"StockLogModel", "rowsOf", "(II)I"⟩, 13) := ⟨⟨by decide +kernel, by decide +kernel⟩, List.mem_of_getElem? (i := 501) (by decide +kernel), List.mem_of_getElem? (i := 582) (by decide +kernel), List.mem_of_getElem? (i := 583) (by decide +kernel)⟩
theorem lw_p15 : lw_okq (⟨"StockLogModel", "kindOf", "(I)I"⟩, 13) := ⟨⟨by decide +kernel, by decide +kernel⟩, List.mem_of_getElem? (i := 501) (by decide +kernel), List.mem_of_getElem? (i := 586) (by decide +kernel), List.mem_of_getElem? (i := 587) (by decide +kernel)⟩
def lw_privs_1 : List (MethodName × Nat) := [(⟨"StockLog", "readDisk", "()I"⟩, 9), (⟨"StockLog$Rows", "judgeNext", "(LStockLog$Cells;)I"⟩, 8), (⟨"StockLog$Rows", "isState", "(LStockLog$Cells;II)Z"⟩, 8), (⟨"StockLog$Rows", "enlistNext", "()V"⟩, 8), (⟨"java/lang/Throwable", "fillInStackTrace", "(I)Ljava/lang/Throwable;"⟩, 6), (⟨"StockLog", "refuseWhenDown", "()V"⟩, 9), (⟨"StockLog", "refuseOtherKind", "(I)V"⟩, 9), (⟨"StockLog", "refuseWhenFull", "(I)V"⟩, 9), (⟨"StockLog$Rows", "fillState", "()V"⟩, 8), (⟨"StockLog", "placeOf", "(II)I"⟩, 9), (⟨"StockLog", "byteOfRow", "(II)I"⟩, 9), (⟨"StockLogModel", "isFull", "(I)Z"⟩, 13), (⟨"StockLogModel", "head", "(II)I"⟩, 13), (⟨"StockLogModel", "close", "(I)V"⟩, 13), (⟨"StockLogModel", "rowsOf", "(II)I"⟩, 13), (⟨"StockLogModel", "kindOf", "(I)I"⟩, 13)]
theorem lw_r1 : ∀ q ∈ lw_privs_1, lw_okq q := List.forall_mem_cons.mpr ⟨lw_p0, List.forall_mem_cons.mpr ⟨lw_p1, List.forall_mem_cons.mpr ⟨lw_p2, List.forall_mem_cons.mpr ⟨lw_p3, List.forall_mem_cons.mpr ⟨lw_p4, List.forall_mem_cons.mpr ⟨lw_p5, List.forall_mem_cons.mpr ⟨lw_p6, List.forall_mem_cons.mpr ⟨lw_p7, List.forall_mem_cons.mpr ⟨lw_p8, List.forall_mem_cons.mpr ⟨lw_p9, List.forall_mem_cons.mpr ⟨lw_p10, List.forall_mem_cons.mpr ⟨lw_p11, List.forall_mem_cons.mpr ⟨lw_p12, List.forall_mem_cons.mpr ⟨lw_p13, List.forall_mem_cons.mpr ⟨lw_p14, List.forall_mem_cons.mpr ⟨lw_p15, fun _ h => absurd h List.not_mem_nil⟩⟩⟩⟩⟩⟩⟩⟩⟩⟩⟩⟩⟩⟩⟩⟩
theorem lw_p16 : lw_okq (⟨"StockLogModel", "inMemory", "()I"⟩, 13) := ⟨⟨by decide +kernel, by decide +kernel⟩, List.mem_of_getElem? (i := 501) (by decide +kernel), List.mem_of_getElem? (i := 598) (by decide +kernel), List.mem_of_getElem? (i := 599) (by decide +kernel)⟩
theorem lw_p17 : lw_okq (⟨"StockLogModel", "read", "()V"⟩, 13) := ⟨⟨by decide +kernel, by decide +kernel⟩, List.mem_of_getElem? (i := 501) (by decide +kernel), List.mem_of_getElem? (i := 606) (by decide +kernel), List.mem_of_getElem? (i := 607) (by decide +kernel)⟩
theorem lw_p18 : lw_okq (⟨"StockLogModel", "look", "(I)I"⟩, 13) := ⟨⟨by decide +kernel, by decide +kernel⟩, List.mem_of_getElem? (i := 501) (by decide +kernel), List.mem_of_getElem? (i := 610) (by decide +kernel), List.mem_of_getElem? (i := 611) (by decide +kernel)⟩
theorem lw_p19 : lw_okq (⟨"StockLogModel", "countsRight", "(II)Z"⟩, 13) := ⟨⟨by decide +kernel, by decide +kernel⟩, List.mem_of_getElem? (i := 501) (by decide +kernel), List.mem_of_getElem? (i := 614) (by decide +kernel), List.mem_of_getElem? (i := 615) (by decide +kernel)⟩
theorem lw_p20 : lw_okq (⟨"StockLogModel", "isByte", "(II)Z"⟩, 13) := ⟨⟨by decide +kernel, by decide +kernel⟩, List.mem_of_getElem? (i := 501) (by decide +kernel), List.mem_of_getElem? (i := 622) (by decide +kernel), List.mem_of_getElem? (i := 623) (by decide +kernel)⟩
theorem lw_p21 : lw_okq (⟨"StockLogModel", "longOf", "(I)I"⟩, 13) := ⟨⟨by decide +kernel, by decide +kernel⟩, List.mem_of_getElem? (i := 501) (by decide +kernel), List.mem_of_getElem? (i := 642) (by decide +kernel), List.mem_of_getElem? (i := 643) (by decide +kernel)⟩
def lw_privs_2 : List (MethodName × Nat) := [(⟨"StockLogModel", "inMemory", "()I"⟩, 13), (⟨"StockLogModel", "read", "()V"⟩, 13), (⟨"StockLogModel", "look", "(I)I"⟩, 13), (⟨"StockLogModel", "countsRight", "(II)Z"⟩, 13), (⟨"StockLogModel", "isByte", "(II)Z"⟩, 13), (⟨"StockLogModel", "longOf", "(I)I"⟩, 13)]
theorem lw_r2 : ∀ q ∈ lw_privs_2, lw_okq q := List.forall_mem_cons.mpr ⟨lw_p16, List.forall_mem_cons.mpr ⟨lw_p17, List.forall_mem_cons.mpr ⟨lw_p18, List.forall_mem_cons.mpr ⟨lw_p19, List.forall_mem_cons.mpr ⟨lw_p20, List.forall_mem_cons.mpr ⟨lw_p21, fun _ h => absurd h List.not_mem_nil⟩⟩⟩⟩⟩⟩
def lw_privs : List (MethodName × Nat) := lw_privs_1 ++ (lw_privs_2)
def lw_tbl : List Cond := k2_sels lw_privs ++ tables_1
theorem lw_privs_ok : ∀ q ∈ lw_privs, lw_okq q := by
  show ∀ q ∈ lw_privs_1 ++ (lw_privs_2), lw_okq q
  exact List.forall_mem_append.mpr ⟨lw_r1, lw_r2⟩
-- ===== end of PART A; then your names; then what follows =====
end
section
/-! an exception that is caught behind rows of the table that name other classes: the search resolves the rows' classes as it goes -/
/-- one covered row that links to the class ct: it takes the object if its class fits, else the search goes on, in the noted tables -/
theorem xs_row {e : Env} {S : State} {f : JFrame} {a : Addr} {cell : Cell} {Q : Handler → Pre} {E : CtlPost} {d : Bool} {acts : List Action} {z : ExceptionTableEntry} {t : List ExceptionTableEntry} {ct : ClassId}
    (hz : covers z f.pc = true) (h0 : z.catchType ≠ 0) (hl : S.vm.ClassLinks e.platform f.method.cls z.catchType ct) (hcell : S.heap[a]? = some cell) (hobj : ∀ k, cell.vm ≠ .statics k)
    (hk : ∃ k, S.vm.classes[cell.cls]? = some k) (hc : ∃ k, S.vm.classes[ct]? = some k) :
    wp (findHandler.go f a (z :: t)) Q E e d acts S ↔ (if S.vm.assignable cell.cls ct = true then Q (.found z.handlerPc) d acts (S.setVm (S.vm.noted f.method.cls z.catchType (.cls ct))) else wp (findHandler.go f a t) Q E e d acts (S.setVm (S.vm.noted f.method.cls z.catchType (.cls ct)))) := by
  simp only [covers] at hz
  have hal : S.vm.Alike (S.vm.noted f.method.cls z.catchType (.cls ct)) := (Vm.Alike.refl S.vm).noted _ _ _
  obtain ⟨ha, ht⟩ := (resolveClass_links e.toSetting hl).op (op := VmOp.resolveClass f.method.cls z.catchType) rfl
  obtain ⟨k1, hk1⟩ := hk
  obtain ⟨k2, hk2⟩ := hc
  obtain ⟨k3, hk3, -⟩ := hal.2.2 _ _ hk1
  obtain ⟨k4, hk4, -⟩ := hal.2.2 _ _ hk2
  cases hfit : S.vm.assignable cell.cls ct
  · have h' : (S.vm.noted f.method.cls z.catchType (.cls ct)).assignable cell.cls ct = false := by rw [hal.assignable]; exact hfit
    simp [findHandler.go, hz, h0, ha, ht, hcell, hobj, hk3, hk4, h', VmOp.dirties, VmOp.acts]
  · have h' : (S.vm.noted f.method.cls z.catchType (.cls ct)).assignable cell.cls ct = true := by rw [hal.assignable]; exact hfit
    simp [findHandler.go, hz, h0, ha, ht, hcell, hobj, hk3, hk4, h', VmOp.dirties, VmOp.acts]
/-- the whole search: rows that are passed, then the row that takes it -/
theorem xs_find {e : Env} {s₀ : State} {f : JFrame} {a : Addr} {cell : Cell} (hobj : ∀ k, cell.vm ≠ .statics k) (hk0 : ∃ k, s₀.vm.classes[cell.cls]? = some k)
    (x : ExceptionTableEntry) (suf : List ExceptionTableEntry) (hx : covers x f.pc = true) (h0 : x.catchType ≠ 0) {ct : ClassId} (hl : s₀.vm.ClassLinks e.platform f.method.cls x.catchType ct) (hfit : s₀.vm.assignable cell.cls ct = true) :
    ∀ (pre : List ExceptionTableEntry) (S : State), s₀.WarmedH S.vm → S.heap[a]? = some cell →
      (∀ z ∈ pre, covers z f.pc = false ∨ (z.catchType ≠ 0 ∧ ∃ cz, s₀.vm.ClassLinks e.platform f.method.cls z.catchType cz ∧ s₀.vm.assignable cell.cls cz = false)) →
      ∃ vm', s₀.WarmedH vm' ∧ ∀ (Q : Handler → Pre) (E : CtlPost) (d : Bool) (acts : List Action), wp (findHandler.go f a (pre ++ x :: suf)) Q E e d acts S ↔ Q (.found x.handlerPc) d acts (S.setVm vm') := by
  obtain ⟨k0, hk0⟩ := hk0
  intro pre
  induction pre with
  | nil =>
    intro S hW hcell _
    obtain ⟨k1, hk1, -⟩ := hW.alike.2.2 _ _ hk0
    obtain ⟨dk, _, _, kt, hd, _, _, _, _, hkt, _, hopen⟩ := hl.here
    obtain ⟨k2, hk2, -⟩ := hW.alike.2.2 _ _ hkt
    refine ⟨_, hW.noted hd hopen (State.rightAt_cls hl), fun Q E d acts => ?_⟩
    rw [List.nil_append, xs_row hx h0 (hW.classLinks hl) hcell hobj ⟨k1, hk1⟩ ⟨k2, hk2⟩, if_pos (by rw [hW.alike.assignable]; exact hfit)]
  | cons z zs ih =>
    intro S hW hcell hpass
    obtain ⟨k1, hk1, -⟩ := hW.alike.2.2 _ _ hk0
    have hrest := fun w (hw : w ∈ zs) => hpass w (List.mem_cons_of_mem _ hw)
    cases hcov : covers z f.pc with
    | false =>
      obtain ⟨vm', hW', hq⟩ := ih S hW hcell hrest
      refine ⟨vm', hW', fun Q E d acts => ?_⟩
      rw [List.cons_append, Jvm.W.findHandler_go_skip hcov]
      exact hq Q E d acts
    | true =>
      rcases hpass z List.mem_cons_self with h | ⟨hz0, cz, hlz, hno⟩
      · rw [h] at hcov; cases hcov
      · obtain ⟨dk, _, _, kt, hd, _, _, _, _, hkt, _, hopen⟩ := hlz.here
        obtain ⟨k2, hk2, -⟩ := hW.alike.2.2 _ _ hkt
        obtain ⟨vm', hW', hq⟩ := ih (S.setVm (S.vm.noted f.method.cls z.catchType (.cls cz))) (hW.noted hd hopen (State.rightAt_cls hlz)) hcell hrest
        refine ⟨vm', hW', fun Q E d acts => ?_⟩
        rw [List.cons_append, xs_row hcov hz0 (hW.classLinks hlz) hcell hobj ⟨k1, hk1⟩ ⟨k2, hk2⟩, if_neg (by rw [hW.alike.assignable, hno]; decide)]
        exact hq Q E d acts
/-- one step: the frame goes on at the handler -/
theorem xs_catch {e : Env} {s : State} {a : Addr} {f : JFrame} {r : List Frame} {pc : Nat} {vm' : Vm} (hfind : ∀ (Q : Handler → Pre) (E : CtlPost) (d : Bool) (acts : List Action), wp (findHandler f a) Q E e d acts s ↔ Q (.found pc) d acts (s.setVm vm')) :
    (stepThrowing e s a (.java f :: r)).Is ((s.setVm vm').setFrames (.java { f with pc := pc, stack := [.ref a] } :: r)) [] := by
  simp only [stepThrowing, searchFrame, vmDo]
  generalize hr : Sem.go _ e false [] s = res
  obtain ⟨as, rfl, ha⟩ := Sem.eq_ok_of hr (a := Handler.found pc) (s' := s.setVm vm') (acts' := []) (by simp [hfind _ _ _ _])
  exact ⟨rfl, ha⟩
theorem xs_caught {p : Program} {l : Launch} {e : Env} {R : Room} {s : State} {m : MethodId} {args : Array Value} {below : List Frame} {meth : Method} {c : Code} {T : State} {locs : List Loc} {cells slots : Nat}
    (X : Stand p l e R s m args below meth c T locs cells slots) (a : Addr) {g : JFrame} (hg : g.method = m) {cell : Cell} (hcell : T.heap[a]? = some cell) (hobj : cell.vm.isStatics = false) (hk0 : ∃ k, s.vm.classes[cell.cls]? = some k)
    (pre : List ExceptionTableEntry) (x : ExceptionTableEntry) (suf : List ExceptionTableEntry) (hsplit : c.exceptionTable.toList = pre ++ x :: suf)
    (hpass : ∀ z ∈ pre, covers z g.pc = false ∨ (z.catchType ≠ 0 ∧ ∃ cz, s.vm.ClassLinks e.platform m.cls z.catchType cz ∧ s.vm.assignable cell.cls cz = false))
    (hx : covers x g.pc = true) (h0 : x.catchType ≠ 0) {ct : ClassId} (hl : s.vm.ClassLinks e.platform m.cls x.catchType ct) (hfit : s.vm.assignable cell.cls ct = true) :
    ∃ vm', Stand p l e R s m args below meth c (T.setVm vm') locs cells slots ∧ ∀ target, Steps p.tables e below ((T.setVm vm').setTop { g with pc := x.handlerPc, stack := [.ref a] }) target → Steps p.tables e below ((T.setTop g).pushFrame (.throwing a)) target := by
  subst hg
  have h : At T g.method c below := X.here
  obtain ⟨hgo, hw⟩ := h.throwing a
  obtain ⟨vm', hW', hq⟩ := xs_find (e := e) (s₀ := s) (f := g) (a := a) (cell := cell) (VmData.ne_statics_of hobj) hk0 x suf hx h0 hl hfit pre ((T.setTop g).pushFrame (.throwing a)) X.warmed hcell hpass
  refine ⟨vm', X.noted hW', fun target hrest => Steps.head hgo hw ?_⟩
  have hfind : ∀ (Q : Handler → Pre) (E : CtlPost) (d : Bool) (acts : List Action), wp (findHandler g a) Q E e d acts ((T.setTop g).pushFrame (.throwing a)) ↔ Q (.found x.handlerPc) d acts (((T.setTop g).pushFrame (.throwing a)).setVm vm') := fun Q E d acts => (Jvm.W.findHandler_eq (s := (T.setTop g).pushFrame (.throwing a)) (meth := meth) (code := c) X.method' X.code).trans (by rw [hsplit]; exact hq Q E d acts)
  rw [stepThread_throwing (frames_entered h.top _), (xs_catch hfind).1]
  obtain ⟨g₀, hg0⟩ := Option.isSome_iff_exists.mp h.top
  obtain ⟨r, hr⟩ := State.topJava?_eq_some.mp hg0
  have hr2 : (T.setVm vm').frames = .java g₀ :: r := hr
  rw [State.setTop_of_frames _ hr2] at hrest
  rw [State.setTop_of_frames _ hr, State.pushFrame, State.setFrames_setFrames, hr]
  rw [show ((T.setFrames (Frame.throwing a :: (T.setFrames (Frame.java g :: r)).frames)).setVm vm') = (T.setVm vm').setFrames (Frame.throwing a :: (T.setFrames (Frame.java g :: r)).frames) from rfl, State.setFrames_setFrames]
  exact hrest
end
section
/-! ===== BEGIN words of one list among another's, by their places ===== -/
theorem goodIn_r {big : List Cond} (ws : List Cond) (ps : List Nat) (hp : ws = ps.filterMap (fun i => big[i]?)) (h : ws.all goodWord = true) : GoodIn big ws := by
  intro w hw
  have h1 := List.all_eq_true.mp h w hw
  rw [hp] at hw
  obtain ⟨i, -, hi⟩ := List.mem_filterMap.mp hw
  have hm : w ∈ big := by first | exact List.mem_of_getElem? hi | exact List.getElem?_mem hi
  exact ⟨hm, good_of_word h1⟩
theorem goodIn_app {big a b : List Cond} (ha : GoodIn big a) (hb : GoodIn big b) : GoodIn big (a ++ b) := fun w h => (List.mem_append.mp h).elim (ha w) (hb w)
theorem goodIn_ca {big a b : List Cond} {c : Cond} (ha : GoodIn big (c :: a)) (hb : GoodIn big b) : GoodIn big (c :: (a ++ b)) := fun w h => (List.mem_cons.mp h).elim (fun e => ha w (List.mem_cons.mpr (Or.inl e))) (fun h => (List.mem_append.mp h).elim (fun h => ha w (List.mem_cons.mpr (Or.inr h))) (hb w))
theorem goodIn_sub {big ws : List Cond} (hm : ∀ w ∈ ws, w ∈ big) (h : ws.all goodWord = true) : GoodIn big ws := fun w hw => ⟨hm w hw, good_of_word (List.all_eq_true.mp h w hw)⟩
/-! ===== END ===== -/

/-! ===== BEGIN exceptions that leave a method, and their catching by the caller (launches without stack traces) ===== -/
section VXA
/-! The laws vx_back, vx_callV, vx_callS, vx_callSW, vx_throw0, vx_throwS follow proofs of the library, with one case more: JvmDerived/Free/Laws.lean (Back.of_free), Shelf42/LK1.lean (callV, callS), Shelf/KitTraced.lean (throwNew0V, throwNewS). -/
/-- where a method has thrown q: the class by its name, the cell, what was written, the world -/
def vx_T (XC : String → State → State → Prop) (st : State) (q : Addr) (t : State) (mc ms : Nat) (free : Addr → Prop) : Prop :=
  ∃ (E : String) (ce : Cell) (L : List Loc), XC E st t ∧ t.heap[q]? = some ce ∧ ce.vm = .none ∧ st.vm.findClass E = some ce.cls ∧ st.WarmedH t.vm ∧ st.sameButNew ({ t with vm := st.vm } : State) L mc ms ∧ ∀ z ∈ L, free z.base
def vx_Q (Qc : Array Value → State → Outcome → State → Prop) (XC : String → State → State → Prop) (mc ms : Nat) (free : Addr → Prop) : Array Value → State → Outcome → State → Prop := fun a st o t =>
  (Qc a st o t ∧ ∃ L, FrameEnd st o t L mc ms ∧ ∀ q ∈ L, free q.base) ∨ ∃ q, o = .threw q ∧ vx_T XC st q t mc ms free
/-- a callee that returns or throws -/
def vx_Met (l : Launch) (y : MethodName) (ws : List Cond) (rm : Room) (Pc : Array Value → State → Prop) (Qc : Array Value → State → Outcome → State → Prop) (XC : String → State → State → Prop) (mc ms : Nat) (free : Addr → Prop) : Prop :=
  MetFree l y (headSpec ws rm) Pc (fun _ _ _ _ _ => True) (vx_Q Qc XC mc ms free)
def vx_Post (XC : String → State → State → Prop) (mc ms : Nat) (free : Addr → Prop) : Pt → Array Value → Addr → Pt → Prop := fun A a q B =>
  ∃ (g : JFrame) (mk : MethodId) (t : State) (L : List Loc) (E : String) (ce : Cell), B.U.heap = t.heap ∧ B.U.vm = t.vm ∧ XC E (A.U.calling g mk a) t ∧ t.heap[q]? = some ce ∧ ce.vm = .none ∧ A.U.vm.findClass E = some ce.cls ∧ B.locs = A.locs ++ L ∧ (∀ z ∈ L, free z.base) ∧ B.cells = A.cells + mc ∧ B.slots = A.slots + ms
def vx_Back (l : Launch) (R : Room) (p : Program) (e : Env) (below : List Frame) (s : State) (sargs : Array Value) (y : MethodName) (len W9 : Nat)
    (Pre : Pt → Array Value → Prop) (Post : Pt → Array Value → Option Value → Pt → Prop) (PostX : Pt → Array Value → Addr → Pt → Prop) : Prop :=
  ∀ (m : MethodId) (meth : Method) (c : Code) (A : Pt) (g : JFrame) (ig : Instr) (mk : MethodId) (a : Array Value),
    Stand p l e R s m sargs below meth c A.U A.locs A.cells A.slots → g.method = m → g.locals.size = c.maxLocals → decode c.code g.pc = .ok (ig, len) →
    2 * g.monitorRoom + (g.stack.map fun v => v.category).sum ≤ W9 → A.U.methodNamed? y = some mk → Pre A a →
    (∃ (v : Option Value) (B : Pt), Stand p l e R s m sargs below meth c B.U B.locs B.cells B.slots ∧ Post A a v B ∧
      Steps p.tables e below (doInvoke e (A.U.setTop g) [] mk a).1 (B.U.setTop { g with pc := g.pc + len, stack := v.toList ++ g.stack })) ∨
    (∃ (q : Addr) (B : Pt), Stand p l e R s m sargs below meth c B.U B.locs B.cells B.slots ∧ PostX A a q B ∧
      Steps p.tables e below (doInvoke e (A.U.setTop g) [] mk a).1 ((B.U.setTop g).pushFrame (.throwing q)))
section Payer
variable {l : Launch} {R : Room} {p : Program} {e : Env} {below : List Frame} {s : State} {sargs : Array Value} {y : MethodName} {len W9 : Nat}
theorem vx_back {ws : List Cond} {rm : Room} {Pc : Array Value → State → Prop} {Qc : Array Value → State → Outcome → State → Prop} {XC : String → State → State → Prop} {mc ms : Nat} {free : Addr → Prop} {bytes : ByteArray} {maxL : Nat} {ret : Option FieldType}
    (hM : vx_Met l y ws rm Pc Qc XC mc ms free) (hblind : FrameBlind Pc) (hrc : rm.cells = mc) (hrs : rm.slots = ms)
    (hframes : rm.frames + 1 ≤ R.frames) (hlocals : W9 + (maxL + 11) + rm.locals ≤ R.locals)
    (hws : ∀ w ∈ ws, ∀ a' U, s.WarmedH U.vm → w.before a' U = true) (hcode : Cond.code y bytes maxL ret ∈ ws) (hinit : ∀ a' U, s.WarmedH U.vm → (Cond.initialized y.cls).before a' U = true) :
    vx_Back l R p e below s sargs y len W9 (PreOf R mc ms Pc) (PostOf Qc mc ms free) (vx_Post XC mc ms free) := by
  intro m meth c A g ig mk a X hg hsize hdg hW hn hp
  have h1 : (headSpec ws rm).pre.before a A.U = true := atoms_intro fun w hw => hws w hw _ _ X.warmed
  have h2 : (Cond.code y bytes maxL ret).before a A.U = true := hws _ hcode _ _ X.warmed
  have h3 : (Cond.initialized y.cls).before a A.U = true := hinit _ _ X.warmed
  have h4 : A.cells + (headSpec ws rm).room.cells ≤ R.cells := by rw [show (headSpec ws rm).room.cells = mc from hrc]; exact hp.1
  have h5 : A.slots + (headSpec ws rm).room.slots ≤ R.slots := by rw [show (headSpec ws rm).room.slots = ms from hrs]; exact hp.2.1
  have hPc : Pc a (A.U.calling g mk a) := hblind _ _ _ _ hp.2.2
  obtain ⟨U, Ls, c0, s0⟩ := A
  dsimp only [Pt.U, Pt.locs, Pt.cells, Pt.slots] at h1 h2 h3 h4 h5 X hn hPc ⊢
  obtain ⟨methY, cY, hmY, hcY, -, hlY, -, -, -, -⟩ := Cond.code_spec hn h2
  obtain ⟨kY, hkY, -⟩ := className_of_methodNamed hn
  have hinitY : kY.init = .initialized := Cond.initialized_spec (findClass_of_methodNamed hn) hkY h3
  have h : At U g.method c below := by rw [hg]; exact X.here
  have hlocals9 : W9 + (maxL + 11) + (headSpec ws rm).room.locals ≤ R.locals := hlocals
  have happ : (headSpec ws rm).appliesLoose y e.platform (U.calling g mk a) = true :=
    Spec.appliesLoose_calling (g := g) h hdg hn hkY hinitY
      (X.room_calling (g := g) (R' := (headSpec ws rm).room) hsize hmY hcY hframes (by rw [hlY]; omega) h4 h5) h1
  obtain ⟨mid, hmid⟩ := h.above
  have hfr : (U.setTop g).frames = (.java g :: mid) ++ below := by rw [State.frames_setTop' g h.top, hmid]; rfl
  obtain ⟨o, s₂, hsteps, -, hend, hq⟩ := Steps.callFree hM p X.admits X.cas X.clock (acts := []) hfr happ hPc trivial
  have hq' : vx_Q Qc XC mc ms free a (U.calling g mk a) o s₂ := hq
  rw [State.frames_setTop' g h.top] at hend
  obtain ⟨g₀, hg0⟩ := Option.isSome_iff_exists.mp h.top
  obtain ⟨r, hr⟩ := State.topJava?_eq_some.mp hg0
  have hr' : (({ U with heap := s₂.heap, slotsUsed := s₂.slotsUsed } : State).setVm s₂.vm).frames = .java g₀ :: r := hr
  rcases hq' with ⟨hqc, L, hfe, hL⟩ | ⟨q, rfl, E, ce, L, hx, hce, hcv, hcl, hW₂, hsm, hL⟩
  · obtain ⟨⟨v, rfl⟩, hW₂, e2, q2, q3, q4, q5, q6⟩ := id hfe
    have e3 : s₂ = ({ (U.calling g mk a).setFrames s₂.frames with heap := s₂.heap, slotsUsed := s₂.slotsUsed } : State).setVm s₂.vm := by
      have : s₂ = ({ s₂ with vm := (U.calling g mk a).vm } : State).setVm s₂.vm := rfl
      rw [e2] at this
      exact this
    obtain ⟨c₂, i₂, len₂, hc₂, hd₂, hf₂⟩ := hend
    have hW' : U.WarmedH s₂.vm := hW₂
    have hcc : c₂ = c := by
      have h1 : s₂.code? g.method = U.code? g.method := by
        rw [State.code?_eq, State.code?_eq, hW'.alike.method?]
      exact Option.some.inj (hc₂.symm.trans (h1.trans h.code))
    subst hcc
    have hlen : len₂ = len := by rw [hdg] at hd₂; cases hd₂; rfl
    subst hlen
    have hs₂ : s₂ = (({ U with heap := s₂.heap, slotsUsed := s₂.slotsUsed } : State).setVm s₂.vm).setTop { g with pc := g.pc + len₂, stack := v.toList ++ g.stack } := by
      refine e3.trans ?_
      rw [hf₂, State.calling_eq h.top, State.setFrames_setFrames, State.setTop_of_frames _ hr', hr]
      rfl
    have hsame : U.sameButNew ({ U with heap := s₂.heap, slotsUsed := s₂.slotsUsed } : State) L mc ms := by
      refine ⟨?_, q2, q3, q4, q5, q6⟩
      obtain ⟨t, ht, -⟩ := State.frames_cons hr
      show ({ U with heap := s₂.heap, slotsUsed := s₂.slotsUsed } : State) = { U.setFrames U.frames with heap := s₂.heap, slotsUsed := s₂.slotsUsed }
      rw [State.setFrames_self ht]
    subst hg
    refine Or.inl ⟨v, ⟨(({ U with heap := s₂.heap, slotsUsed := s₂.slotsUsed } : State).setVm s₂.vm), Ls ++ L, c0 + mc, s0 + ms⟩,
      ⟨X.admits, X.cas, X.clock, X.frames, X.room, X.hears, X.method, X.code, (X.here.setHeapUsed s₂.heap s₂.slotsUsed).setVm hW'.alike, X.tail, State.WarmedH.trans X.warmed hW', X.limits, X.bytes, X.same.trans (hsame.setVm s.vm)⟩,
      ⟨g, mk, s₂, L, rfl, rfl, hqc, rfl, hL, rfl, rfl⟩, ?_⟩
    show Steps p.tables e below _ ((({ U with heap := s₂.heap, slotsUsed := s₂.slotsUsed } : State).setVm s₂.vm).setTop { g with pc := g.pc + len₂, stack := v.toList ++ g.stack })
    rw [← hs₂]
    exact hsteps
  · obtain ⟨e2, q2, q3, q4, q5, q6⟩ := id hsm
    have e3 : s₂ = ({ (U.calling g mk a).setFrames s₂.frames with heap := s₂.heap, slotsUsed := s₂.slotsUsed } : State).setVm s₂.vm := by
      have : s₂ = ({ s₂ with vm := (U.calling g mk a).vm } : State).setVm s₂.vm := rfl
      rw [e2] at this
      exact this
    have hf₂ : s₂.frames = .throwing q :: .java g :: U.frames.tail := hend
    have hW' : U.WarmedH s₂.vm := hW₂
    have hs₂ : s₂ = ((({ U with heap := s₂.heap, slotsUsed := s₂.slotsUsed } : State).setVm s₂.vm).setTop g).pushFrame (.throwing q) := by
      refine e3.trans ?_
      rw [hf₂, State.calling_eq h.top, State.setFrames_setFrames, State.pushFrame, State.frames_setTop _ hr', State.setTop_of_frames _ hr', State.setFrames_setFrames, hr]
      rfl
    have hsame : U.sameButNew ({ U with heap := s₂.heap, slotsUsed := s₂.slotsUsed } : State) L mc ms := by
      refine ⟨?_, q2, q3, q4, q5, q6⟩
      obtain ⟨t, ht, -⟩ := State.frames_cons hr
      show ({ U with heap := s₂.heap, slotsUsed := s₂.slotsUsed } : State) = { U.setFrames U.frames with heap := s₂.heap, slotsUsed := s₂.slotsUsed }
      rw [State.setFrames_self ht]
    subst hg
    refine Or.inr ⟨q, ⟨(({ U with heap := s₂.heap, slotsUsed := s₂.slotsUsed } : State).setVm s₂.vm), Ls ++ L, c0 + mc, s0 + ms⟩,
      ⟨X.admits, X.cas, X.clock, X.frames, X.room, X.hears, X.method, X.code, (X.here.setHeapUsed s₂.heap s₂.slotsUsed).setVm hW'.alike, X.tail, State.WarmedH.trans X.warmed hW', X.limits, X.bytes, X.same.trans (hsame.setVm s.vm)⟩,
      ⟨g, mk, s₂, L, E, ce, rfl, rfl, hx, hce, hcv, hcl, rfl, hL, rfl, rfl⟩, ?_⟩
    show Steps p.tables e below _ (((({ U with heap := s₂.heap, slotsUsed := s₂.slotsUsed } : State).setVm s₂.vm).setTop g).pushFrame (.throwing q))
    rw [← hs₂]
    exact hsteps
end Payer
section Calls
variable {p : Program} {l : Launch} {e : Env} {R : Room} {s : State} {m : MethodId} {args : Array Value} {below : List Frame} {meth : Method} {c : Code} {T : State} {locs : List Loc} {cells slots : Nat}
theorem vx_callV (X : Stand p l e R s m args below meth c T locs cells slots) (hexec : p.tables.exec = Jvm.exec) {own C : String} {index : Nat} {y : MethodName} {bytes : ByteArray} {maxL : Nat} {ret : Option FieldType}
    (hown : s.vm.findClass own = some m.cls) (hlink : (Cond.methodLink own index y).before args s = true) (hinst : (Cond.instanceMethod y).before args s = true) (hsel : (Cond.selects C y y).before args s = true)
    (hcode : (Cond.code y bytes maxL ret).before args s = true) (hy : y.cls ≠ "java/lang/invoke/MethodHandle" ∧ y.cls ≠ "java/lang/invoke/VarHandle")
    {W9 : Nat} {Pre : Pt → Array Value → Prop} {Post : Pt → Array Value → Option Value → Pt → Prop} {PostX : Pt → Array Value → Addr → Pt → Prop} (hK : vx_Back l R p e below s args y 3 W9 Pre Post PostX)
    {b : Addr} {cellB : Cell} (hcell : T.heap[b]? = some cellB) (hobj : cellB.vm.isStatics = false) (hcls : s.vm.findClass C = some cellB.cls)
    {g : JFrame} (hg : g.method = m) (hsize : g.locals.size = c.maxLocals) {argsL rest : List Value} (hlen : ∀ sig, parseMethodDescriptor y.desc = some sig → argsL.length = sig.parameters.length)
    (hstack : g.stack = argsL.reverse ++ .ref b :: rest) (hW : 2 * g.monitorRoom + (rest.map fun v => v.category).sum ≤ W9) (hdg : decode c.code g.pc = .ok (.invokevirtual index, 3))
    (hpre : ∀ vm₁, s.WarmedH vm₁ → Pre ⟨T.setVm vm₁, locs, cells, slots⟩ (Value.ref b :: argsL).toArray) :
    (∃ (v : Option Value) (vm₁ : Vm) (B : Pt), s.WarmedH vm₁ ∧ Stand p l e R s m args below meth c B.U B.locs B.cells B.slots ∧ Post ⟨T.setVm vm₁, locs, cells, slots⟩ (Value.ref b :: argsL).toArray v B ∧
      ∀ target, Steps p.tables e below (B.U.setTop { g with pc := g.pc + 3, stack := v.toList ++ rest }) target → Steps p.tables e below (T.setTop g) target) ∨
    (∃ (q : Addr) (vm₁ : Vm) (B : Pt), s.WarmedH vm₁ ∧ Stand p l e R s m args below meth c B.U B.locs B.cells B.slots ∧ PostX ⟨T.setVm vm₁, locs, cells, slots⟩ (Value.ref b :: argsL).toArray q B ∧
      Steps p.tables e below (T.setTop g) ((B.U.setTop { g with stack := rest }).pushFrame (.throwing q))) := by
  obtain ⟨mk, methM, hnamed, hmethM, hstM, habM⟩ := Cond.instanceMethod_spec hinst
  obtain ⟨methM', cM, hmethM', -, -, -, -, -, -, hsigM⟩ := Cond.code_spec hnamed hcode
  cases hmethM.symm.trans hmethM'
  obtain ⟨c2, r2, m2, q1, q2, q3, q4, kP, hkP, hkPi⟩ := Cond.selects_spec hsel
  cases hcls.symm.trans q1
  cases (State.methodFound?_of_named hnamed hy).symm.trans q2
  cases hnamed.symm.trans q3
  have hselP : selectMethod e.platform s.vm cellB.cls mk = .method mk := by rw [Launch.admits_selectMethod X.admits]; exact q4
  obtain ⟨vm₁, X₁, hstep₁⟩ := X.invokevirtual hexec hown hlink hnamed hmethM hstM hkP hkPi hy (a := b) (cell := cellB) hcell
    (fun z h => by rw [h] at hobj; cases hobj) hselP hmethM habM hkP hkPi (g := g) hg (argsL := argsL) (rest := rest) (hlen _ hsigM) hstack hdg
  rcases hK m meth c ⟨T.setVm vm₁, locs, cells, slots⟩ { g with stack := rest } (.invokevirtual index) mk (Value.ref b :: argsL).toArray X₁ hg hsize hdg hW (X₁.named hnamed) (hpre vm₁ X₁.warmed) with ⟨v, B, X', hpost, hsteps⟩ | ⟨q, B, X', hpost, hsteps⟩
  · exact Or.inl ⟨v, vm₁, B, X₁.warmed, X', hpost, fun target h => hstep₁ _ fun acts => by rw [doInvoke_state]; exact hsteps.trans h⟩
  · exact Or.inr ⟨q, vm₁, B, X₁.warmed, X', hpost, hstep₁ _ fun acts => by rw [doInvoke_state]; exact hsteps⟩
theorem vx_callS (X : Stand p l e R s m args below meth c T locs cells slots) (hexec : p.tables.exec = Jvm.exec) {own : String} {index : Nat} {y : MethodName} {bytes : ByteArray} {maxL : Nat} {ret : Option FieldType}
    (hown : s.vm.findClass own = some m.cls) (hlink : (Cond.methodLink own index y).before args s = true) (hstat : (Cond.static y).before args s = true) (hinit : (Cond.initialized y.cls).before args s = true)
    (hcode : (Cond.code y bytes maxL ret).before args s = true) (hy : y.cls ≠ "java/lang/invoke/MethodHandle" ∧ y.cls ≠ "java/lang/invoke/VarHandle")
    {W9 : Nat} {Pre : Pt → Array Value → Prop} {Post : Pt → Array Value → Option Value → Pt → Prop} {PostX : Pt → Array Value → Addr → Pt → Prop} (hK : vx_Back l R p e below s args y 3 W9 Pre Post PostX)
    {g : JFrame} (hg : g.method = m) (hsize : g.locals.size = c.maxLocals) {argsL rest : List Value} (hlen : ∀ sig, parseMethodDescriptor y.desc = some sig → argsL.length = sig.parameters.length)
    (hstack : g.stack = argsL.reverse ++ rest) (hW : 2 * g.monitorRoom + (rest.map fun v => v.category).sum ≤ W9) (hdg : decode c.code g.pc = .ok (.invokestatic index, 3))
    (hpre : ∀ vm₁, s.WarmedH vm₁ → Pre ⟨T.setVm vm₁, locs, cells, slots⟩ argsL.toArray) :
    (∃ (v : Option Value) (vm₁ : Vm) (B : Pt), s.WarmedH vm₁ ∧ Stand p l e R s m args below meth c B.U B.locs B.cells B.slots ∧ Post ⟨T.setVm vm₁, locs, cells, slots⟩ argsL.toArray v B ∧
      ∀ target, Steps p.tables e below (B.U.setTop { g with pc := g.pc + 3, stack := v.toList ++ rest }) target → Steps p.tables e below (T.setTop g) target) ∨
    (∃ (q : Addr) (vm₁ : Vm) (B : Pt), s.WarmedH vm₁ ∧ Stand p l e R s m args below meth c B.U B.locs B.cells B.slots ∧ PostX ⟨T.setVm vm₁, locs, cells, slots⟩ argsL.toArray q B ∧
      Steps p.tables e below (T.setTop g) ((B.U.setTop { g with stack := rest }).pushFrame (.throwing q))) := by
  obtain ⟨mk, hnamed⟩ := Cond.code_named hcode
  obtain ⟨methM, cM, hmethM, -, -, -, -, -, -, hsigM⟩ := Cond.code_spec hnamed hcode
  have hstatic : methM.isStatic = true := Cond.static_spec hnamed hmethM hstat
  obtain ⟨kP, hkP, -⟩ := className_of_methodNamed hnamed
  have hinitP : kP.init = .initialized := Cond.initialized_spec (findClass_of_methodNamed hnamed) hkP hinit
  obtain ⟨vm₁, X₁, hstep₁⟩ := X.invokestatic hexec hown hlink hnamed hmethM hstatic hkP hinitP hy (g := g) hg (argsL := argsL) (rest := rest) (hlen _ hsigM) hstack hdg
  rcases hK m meth c ⟨T.setVm vm₁, locs, cells, slots⟩ { g with stack := rest } (.invokestatic index) mk argsL.toArray X₁ hg hsize hdg hW (X₁.named hnamed) (hpre vm₁ X₁.warmed) with ⟨v, B, X', hpost, hsteps⟩ | ⟨q, B, X', hpost, hsteps⟩
  · exact Or.inl ⟨v, vm₁, B, X₁.warmed, X', hpost, fun target h => hstep₁ _ fun acts => by rw [doInvoke_state]; exact hsteps.trans h⟩
  · exact Or.inr ⟨q, vm₁, B, X₁.warmed, X', hpost, hstep₁ _ fun acts => by rw [doInvoke_state]; exact hsteps⟩
end Calls
theorem vx_cls {s : State} {T : State} {vm₁ : Vm} {E : String} {k : ClassId} (hW : s.WarmedH vm₁) (h : (T.setVm vm₁).vm.findClass E = some k) : s.vm.findClass E = some k := by
  have h1 : vm₁.findClass E = some k := h
  rw [hW.alike.findClass] at h1
  exact h1
/-- the method's frame g, with q thrown over it -/
def vx_W (p : Program) (l : Launch) (e : Env) (R : Room) (s : State) (m : MethodId) (args : Array Value) (below : List Frame) (meth : Method) (c : Code) (H : Heap) (locs : List Loc) (cells slots : Nat) (Q : State → Prop) (g : JFrame) (q : Addr) : Prop :=
  ∀ T : State, T.heap = H → Stand p l e R s m args below meth c T locs cells slots → ∃ t, Steps p.tables e below ((T.setTop g).pushFrame (.throwing q)) t ∧ Q t
def vx_Run (p : Program) (l : Launch) (e : Env) (R : Room) (s : State) (m : MethodId) (args : Array Value) (below : List Frame) (meth : Method) (c : Code) (H : Heap) (locs : List Loc) (cells slots mc ms : Nat) (g : JFrame) (rest : List Value) (Qa : State → Outcome → State → Prop) (XC : String → State → State → Prop) (free : Addr → Prop) : Prop :=
  ∀ T : State, T.heap = H → Stand p l e R s m args below meth c T locs cells slots →
    (∃ (v : Option Value) (st₀ t T' : State) (L : List Loc), st₀.heap = H ∧ Stand p l e R s m args below meth c T' (locs ++ L) (cells + mc) (slots + ms) ∧ (∀ q ∈ L, free q.base) ∧ T'.heap = t.heap ∧ T'.vm = t.vm ∧ Qa st₀ (.returned v) t ∧
      Goes p e below T g T' { g with pc := g.pc + 3, stack := v.toList ++ rest }) ∨
    (∃ (q : Addr) (st₀ t T' : State) (L : List Loc) (E : String) (ce : Cell), st₀.heap = H ∧ Stand p l e R s m args below meth c T' (locs ++ L) (cells + mc) (slots + ms) ∧ (∀ z ∈ L, free z.base) ∧ T'.heap = t.heap ∧ T'.vm = t.vm ∧ XC E st₀ t ∧ t.heap[q]? = some ce ∧ ce.vm = .none ∧ s.vm.findClass E = some ce.cls ∧
      Steps p.tables e below (T.setTop g) ((T'.setTop { g with stack := rest }).pushFrame (.throwing q)))
def vx_X {S : Type} (px : S → Prop) (B : String → S → State → Prop) (A : Nat → Prop) : String → State → State → Prop := fun E st t => ∃ u : S, px u ∧ B E u t ∧ va_F A st t
section Runs
variable {p : Program} {l : Launch} {e : Env} {R : Room} {s : State} {m : MethodId} {args : Array Value} {below : List Frame} {meth : Method} {c : Code} {H : Heap} {locs : List Loc} {cells slots : Nat}
variable {y : MethodName} {bytes cc : ByteArray} {maxL nL mc ms n index : Nat} {ret : Option FieldType} {ws : List Cond} {rm : Room} {Pc : Array Value → State → Prop} {Qc : Array Value → State → Outcome → State → Prop} {XC : String → State → State → Prop} {free : Addr → Prop} {Ts : List Cond} {own C : String} {b : Addr} {As rest : List Value} {g : JFrame}
theorem vx_callBack (cb : CallB R s args own index y bytes maxL ret ws rm mc ms n) (hM : vx_Met l y ws rm Pc Qc XC mc ms free) (hbl : FrameBlind Pc) : vx_Back l R p e below s args y 3 8 (PreOf R mc ms Pc) (PostOf Qc mc ms free) (vx_Post XC mc ms free) := by
  obtain ⟨hrc, hrs, hfr, hlo, hws, hcw, -, hini, -⟩ := cb
  exact vx_back (bytes := bytes) (maxL := maxL) (ret := ret) hM hbl hrc hrs hfr hlo hws hcw (fun a' U hW => word_at hW (Or.inl (by first | rfl | simp [Cond.onTables, Cond.keeps, Cond.steady])) hini)
theorem vx_runV (S : CallFix p m c cc nL s args Ts own) (hM : vx_Met l y ws rm Pc Qc XC mc ms free) (cw : CallW R s args own C index y bytes maxL ret ws rm mc ms n) (hp : PreV s H C b Pc As)
    (hg : g.method = m) (hn : As.length = n) (hsize : g.locals.size = nL) (hstack : g.stack = As.reverse ++ .ref b :: rest) (hW : 2 * g.monitorRoom + (rest.map fun v => v.category).sum ≤ 8) (hdg : decode cc g.pc = .ok (.invokevirtual index, 3)) (hf : cells + mc ≤ R.cells ∧ slots + ms ≤ R.slots) :
    vx_Run p l e R s m args below meth c H locs cells slots mc ms g rest (Qc (Value.ref b :: As).toArray) XC free := by
  have hK : vx_Back l R p e below s args y 3 8 (PreOf R mc ms Pc) (PostOf Qc mc ms free) (vx_Post XC mc ms free) := vx_callBack cw.1 hM hp.1
  obtain ⟨⟨-, -, -, -, -, -, hcode, -, hy, hlen, hl⟩, hin, hse⟩ := cw
  obtain ⟨hx, hb, hml, ho, -⟩ := S
  obtain ⟨-, ⟨cellB, hcB, hoB, hclB⟩, hPc⟩ := hp
  intro T hT X
  rcases vx_callV X hx (C := C) (bytes := bytes) (maxL := maxL) (ret := ret) ho hl hin hse hcode hy hK (by rw [hT]; exact hcB) hoB hclB hg (hsize.trans hml.symm) (argsL := As) (rest := rest) (fun sig h => hn.trans (hlen sig h)) hstack hW (by rw [hb]; exact hdg)
    (fun vm₁ hW₁ => ⟨hf.1, hf.2, hPc (T.setVm vm₁) hT hW₁⟩) with ⟨v, vm₁, ⟨U', l2, c2, s2⟩, hW₁, X', ⟨g', mk, t, L, e1, e2, hq, h1, hL, h2, h3⟩, st⟩ | ⟨q, vm₁, ⟨U', l2, c2, s2⟩, hW₁, X', ⟨g', mk, t, L, E, ce, e1, e2, hq, hce, hcv, hcl, h1, hL, h2, h3⟩, st⟩
  · dsimp only [Pt.U, Pt.locs, Pt.cells, Pt.slots] at X' e1 e2 h1 h2 h3 st
    subst h1; subst h2; subst h3
    exact Or.inl ⟨v, (T.setVm vm₁).calling g' mk (Value.ref b :: As).toArray, t, U', L, hT, X', hL, e1, e2, hq, st⟩
  · dsimp only [Pt.U, Pt.locs, Pt.cells, Pt.slots] at X' e1 e2 h1 h2 h3 st hcl
    subst h1; subst h2; subst h3
    exact Or.inr ⟨q, (T.setVm vm₁).calling g' mk (Value.ref b :: As).toArray, t, U', L, E, ce, hT, X', hL, e1, e2, hq, hce, hcv, vx_cls hW₁ hcl, st⟩
theorem vx_runS (S : CallFix p m c cc nL s args Ts own) (hM : vx_Met l y ws rm Pc Qc XC mc ms free) (cw : CallB R s args own index y bytes maxL ret ws rm mc ms n ∧ (Cond.static y).before args s = true) (hp : PreS s H Pc As)
    (hg : g.method = m) (hn : As.length = n) (hsize : g.locals.size = nL) (hstack : g.stack = As.reverse ++ rest) (hW : 2 * g.monitorRoom + (rest.map fun v => v.category).sum ≤ 8) (hdg : decode cc g.pc = .ok (.invokestatic index, 3)) (hf : cells + mc ≤ R.cells ∧ slots + ms ≤ R.slots) :
    vx_Run p l e R s m args below meth c H locs cells slots mc ms g rest (Qc As.toArray) XC free := by
  have hK : vx_Back l R p e below s args y 3 8 (PreOf R mc ms Pc) (PostOf Qc mc ms free) (vx_Post XC mc ms free) := vx_callBack cw.1 hM hp.1
  obtain ⟨⟨-, -, -, -, -, -, hcode, hini, hy, hlen, hl⟩, hstt⟩ := cw
  obtain ⟨hx, hb, hml, ho, -⟩ := S
  intro T hT X
  rcases vx_callS X hx (bytes := bytes) (maxL := maxL) (ret := ret) ho hl hstt hini hcode hy hK hg (hsize.trans hml.symm) (argsL := As) (rest := rest) (fun sig h => hn.trans (hlen sig h)) hstack hW (by rw [hb]; exact hdg)
    (fun vm₁ hW₁ => ⟨hf.1, hf.2, hp.2 (T.setVm vm₁) hT hW₁⟩) with ⟨v, vm₁, ⟨U', l2, c2, s2⟩, hW₁, X', ⟨g', mk, t, L, e1, e2, hq, h1, hL, h2, h3⟩, st⟩ | ⟨q, vm₁, ⟨U', l2, c2, s2⟩, hW₁, X', ⟨g', mk, t, L, E, ce, e1, e2, hq, hce, hcv, hcl, h1, hL, h2, h3⟩, st⟩
  · dsimp only [Pt.U, Pt.locs, Pt.cells, Pt.slots] at X' e1 e2 h1 h2 h3 st
    subst h1; subst h2; subst h3
    exact Or.inl ⟨v, (T.setVm vm₁).calling g' mk As.toArray, t, U', L, hT, X', hL, e1, e2, hq, st⟩
  · dsimp only [Pt.U, Pt.locs, Pt.cells, Pt.slots] at X' e1 e2 h1 h2 h3 st hcl
    subst h1; subst h2; subst h3
    exact Or.inr ⟨q, (T.setVm vm₁).calling g' mk As.toArray, t, U', L, E, ce, hT, X', hL, e1, e2, hq, hce, hcv, vx_cls hW₁ hcl, st⟩
end Runs
section Rows
variable {p : Program} {l : Launch} {e : Env} {R : Room} {s : State} {m : MethodId} {args : Array Value} {below : List Frame} {meth : Method} {c : Code} {H : Heap} {locs : List Loc} {cells slots : Nat} {Q : State → Prop}
variable {mc ms : Nat} {free : Addr → Prop} {A0 A1 : Nat → Prop} {H0 : Heap} {a : Array Value} {pc : Nat} {ls : Array Slot} {st0 rest : List Value}
theorem vx_keep {st₀ t T' : State} {L : List Loc} (h0 : st₀.heap = H) (e1 : T'.heap = t.heap) (hS : va_S A0 H0 H locs) (hA : ∀ q, q < H.size → A1 q → A0 q) (hf : ∀ q, free q → A0 q) (hL : ∀ q ∈ L, free q.base) (hF : va_F A1 st₀ t) :
    H.size ≤ T'.heap.size ∧ (∀ q : Nat, q < H.size → ¬ A1 q → T'.heap[q]? = H[q]?) ∧ va_S A0 H0 T'.heap (locs ++ L) := by
  obtain ⟨hz, hk⟩ := hF
  rw [h0] at hz hk
  exact ⟨by rw [e1]; exact hz, fun q h1 h2 => by rw [e1]; exact hk q h1 h2,
    ⟨Nat.le_trans hS.1 (by rw [e1]; exact hz), fun q h1 h2 => by rw [e1, hk q (Nat.lt_of_lt_of_le h1 hS.1) (fun z => h2 (hA q (Nat.lt_of_lt_of_le h1 hS.1) z))]; exact hS.2.1 q h1 h2, fun q hq => by
      rcases List.mem_append.mp hq with h | h
      · exact hS.2.2 q h
      · exact hf _ (hL q h)⟩⟩
theorem vx_calli {S SX : Type} {post : Int32 → S → Prop} {px : SX → Prop} {B : S → State → Prop} {BX : String → SX → State → Prop} {AX : Nat → Prop} (hr : vx_Run p l e R s m args below meth c H locs cells slots mc ms (F0 m pc ls st0) rest (va_Qi post B A1 a) (vx_X px BX AX) free) (hS : va_S A0 H0 H locs) (hA : ∀ q, q < H.size → A1 q → A0 q) (hf : ∀ q, free q → A0 q) (hAX : ∀ q, q < H.size → AX q → A0 q)
    (kx : ∀ (E : String) (ce : Cell) (q9 : Addr) (u : SX) (t : State) (H1 : Heap) (locs1 : List Loc), t.heap = H1 → s.vm.Alike t.vm → px u → BX E u t → H.size ≤ H1.size → (∀ q : Nat, q < H.size → ¬ AX q → H1[q]? = H[q]?) → va_S A0 H0 H1 locs1 → H1[q9]? = some ce → ce.vm = .none → s.vm.findClass E = some ce.cls → vx_W p l e R s m args below meth c H1 locs1 (cells + mc) (slots + ms) Q (F0 m pc ls rest) q9)
    (kk : ∀ (r : Int32) (u : S) (t : State) (H1 : Heap) (locs1 : List Loc), t.heap = H1 → s.vm.Alike t.vm → post r u → B u t → H.size ≤ H1.size → (∀ q : Nat, q < H.size → ¬ A1 q → H1[q]? = H[q]?) → va_S A0 H0 H1 locs1 → W p l e R s m args below meth c H1 locs1 (cells + mc) (slots + ms) Q (F0 m (pc + 3) ls (.int r :: rest))) : W p l e R s m args below meth c H locs cells slots Q (F0 m pc ls st0) := by
  intro T hT X
  rcases hr T hT X with ⟨v, st₀, t, T', L, h0, X', hL, e1, e2, ⟨⟨r, u, hv, hp, hb⟩, hF⟩, st⟩ | ⟨q, st₀, t, T', L, E, ce, h0, X', hL, e1, e2, ⟨u, hp, hb, hF⟩, hce, hcv, hcl, st⟩
  · cases hv
    obtain ⟨k1, k2, k3⟩ := vx_keep h0 e1 hS hA hf hL hF
    obtain ⟨t2, a1, b1⟩ := kk r u t T'.heap (locs ++ L) e1.symm (by rw [← e2]; exact X'.warmed.alike) hp hb k1 k2 k3 T' rfl X'
    exact ⟨t2, st t2 a1, b1⟩
  · obtain ⟨k1, k2, k3⟩ := vx_keep h0 e1 hS hAX hf hL hF
    obtain ⟨t2, a1, b1⟩ := kx E ce q u t T'.heap (locs ++ L) e1.symm (by rw [← e2]; exact X'.warmed.alike) hp hb k1 k2 k3 (by rw [e1]; exact hce) hcv hcl T' rfl X'
    exact ⟨t2, st.trans a1, b1⟩
theorem vx_calll {S SX : Type} {post : Int64 → S → Prop} {px : SX → Prop} {B : S → State → Prop} {BX : String → SX → State → Prop} {AX : Nat → Prop} (hr : vx_Run p l e R s m args below meth c H locs cells slots mc ms (F0 m pc ls st0) rest (va_Ql post B A1 a) (vx_X px BX AX) free) (hS : va_S A0 H0 H locs) (hA : ∀ q, q < H.size → A1 q → A0 q) (hf : ∀ q, free q → A0 q) (hAX : ∀ q, q < H.size → AX q → A0 q)
    (kx : ∀ (E : String) (ce : Cell) (q9 : Addr) (u : SX) (t : State) (H1 : Heap) (locs1 : List Loc), t.heap = H1 → s.vm.Alike t.vm → px u → BX E u t → H.size ≤ H1.size → (∀ q : Nat, q < H.size → ¬ AX q → H1[q]? = H[q]?) → va_S A0 H0 H1 locs1 → H1[q9]? = some ce → ce.vm = .none → s.vm.findClass E = some ce.cls → vx_W p l e R s m args below meth c H1 locs1 (cells + mc) (slots + ms) Q (F0 m pc ls rest) q9)
    (kk : ∀ (r : Int64) (u : S) (t : State) (H1 : Heap) (locs1 : List Loc), t.heap = H1 → s.vm.Alike t.vm → post r u → B u t → H.size ≤ H1.size → (∀ q : Nat, q < H.size → ¬ A1 q → H1[q]? = H[q]?) → va_S A0 H0 H1 locs1 → W p l e R s m args below meth c H1 locs1 (cells + mc) (slots + ms) Q (F0 m (pc + 3) ls (.long r :: rest))) : W p l e R s m args below meth c H locs cells slots Q (F0 m pc ls st0) := by
  intro T hT X
  rcases hr T hT X with ⟨v, st₀, t, T', L, h0, X', hL, e1, e2, ⟨⟨r, u, hv, hp, hb⟩, hF⟩, st⟩ | ⟨q, st₀, t, T', L, E, ce, h0, X', hL, e1, e2, ⟨u, hp, hb, hF⟩, hce, hcv, hcl, st⟩
  · cases hv
    obtain ⟨k1, k2, k3⟩ := vx_keep h0 e1 hS hA hf hL hF
    obtain ⟨t2, a1, b1⟩ := kk r u t T'.heap (locs ++ L) e1.symm (by rw [← e2]; exact X'.warmed.alike) hp hb k1 k2 k3 T' rfl X'
    exact ⟨t2, st t2 a1, b1⟩
  · obtain ⟨k1, k2, k3⟩ := vx_keep h0 e1 hS hAX hf hL hF
    obtain ⟨t2, a1, b1⟩ := kx E ce q u t T'.heap (locs ++ L) e1.symm (by rw [← e2]; exact X'.warmed.alike) hp hb k1 k2 k3 (by rw [e1]; exact hce) hcv hcl T' rfl X'
    exact ⟨t2, st.trans a1, b1⟩
theorem vx_callf {S SX : Type} {post : UInt32 → S → Prop} {px : SX → Prop} {B : S → State → Prop} {BX : String → SX → State → Prop} {AX : Nat → Prop} (hr : vx_Run p l e R s m args below meth c H locs cells slots mc ms (F0 m pc ls st0) rest (va_Qf post B A1 a) (vx_X px BX AX) free) (hS : va_S A0 H0 H locs) (hA : ∀ q, q < H.size → A1 q → A0 q) (hf : ∀ q, free q → A0 q) (hAX : ∀ q, q < H.size → AX q → A0 q)
    (kx : ∀ (E : String) (ce : Cell) (q9 : Addr) (u : SX) (t : State) (H1 : Heap) (locs1 : List Loc), t.heap = H1 → s.vm.Alike t.vm → px u → BX E u t → H.size ≤ H1.size → (∀ q : Nat, q < H.size → ¬ AX q → H1[q]? = H[q]?) → va_S A0 H0 H1 locs1 → H1[q9]? = some ce → ce.vm = .none → s.vm.findClass E = some ce.cls → vx_W p l e R s m args below meth c H1 locs1 (cells + mc) (slots + ms) Q (F0 m pc ls rest) q9)
    (kk : ∀ (r : UInt32) (u : S) (t : State) (H1 : Heap) (locs1 : List Loc), t.heap = H1 → s.vm.Alike t.vm → post r u → B u t → H.size ≤ H1.size → (∀ q : Nat, q < H.size → ¬ A1 q → H1[q]? = H[q]?) → va_S A0 H0 H1 locs1 → W p l e R s m args below meth c H1 locs1 (cells + mc) (slots + ms) Q (F0 m (pc + 3) ls (.float r :: rest))) : W p l e R s m args below meth c H locs cells slots Q (F0 m pc ls st0) := by
  intro T hT X
  rcases hr T hT X with ⟨v, st₀, t, T', L, h0, X', hL, e1, e2, ⟨⟨r, u, hv, hp, hb⟩, hF⟩, st⟩ | ⟨q, st₀, t, T', L, E, ce, h0, X', hL, e1, e2, ⟨u, hp, hb, hF⟩, hce, hcv, hcl, st⟩
  · cases hv
    obtain ⟨k1, k2, k3⟩ := vx_keep h0 e1 hS hA hf hL hF
    obtain ⟨t2, a1, b1⟩ := kk r u t T'.heap (locs ++ L) e1.symm (by rw [← e2]; exact X'.warmed.alike) hp hb k1 k2 k3 T' rfl X'
    exact ⟨t2, st t2 a1, b1⟩
  · obtain ⟨k1, k2, k3⟩ := vx_keep h0 e1 hS hAX hf hL hF
    obtain ⟨t2, a1, b1⟩ := kx E ce q u t T'.heap (locs ++ L) e1.symm (by rw [← e2]; exact X'.warmed.alike) hp hb k1 k2 k3 (by rw [e1]; exact hce) hcv hcl T' rfl X'
    exact ⟨t2, st.trans a1, b1⟩
theorem vx_calld {S SX : Type} {post : UInt64 → S → Prop} {px : SX → Prop} {B : S → State → Prop} {BX : String → SX → State → Prop} {AX : Nat → Prop} (hr : vx_Run p l e R s m args below meth c H locs cells slots mc ms (F0 m pc ls st0) rest (va_Qd post B A1 a) (vx_X px BX AX) free) (hS : va_S A0 H0 H locs) (hA : ∀ q, q < H.size → A1 q → A0 q) (hf : ∀ q, free q → A0 q) (hAX : ∀ q, q < H.size → AX q → A0 q)
    (kx : ∀ (E : String) (ce : Cell) (q9 : Addr) (u : SX) (t : State) (H1 : Heap) (locs1 : List Loc), t.heap = H1 → s.vm.Alike t.vm → px u → BX E u t → H.size ≤ H1.size → (∀ q : Nat, q < H.size → ¬ AX q → H1[q]? = H[q]?) → va_S A0 H0 H1 locs1 → H1[q9]? = some ce → ce.vm = .none → s.vm.findClass E = some ce.cls → vx_W p l e R s m args below meth c H1 locs1 (cells + mc) (slots + ms) Q (F0 m pc ls rest) q9)
    (kk : ∀ (r : UInt64) (u : S) (t : State) (H1 : Heap) (locs1 : List Loc), t.heap = H1 → s.vm.Alike t.vm → post r u → B u t → H.size ≤ H1.size → (∀ q : Nat, q < H.size → ¬ A1 q → H1[q]? = H[q]?) → va_S A0 H0 H1 locs1 → W p l e R s m args below meth c H1 locs1 (cells + mc) (slots + ms) Q (F0 m (pc + 3) ls (.double r :: rest))) : W p l e R s m args below meth c H locs cells slots Q (F0 m pc ls st0) := by
  intro T hT X
  rcases hr T hT X with ⟨v, st₀, t, T', L, h0, X', hL, e1, e2, ⟨⟨r, u, hv, hp, hb⟩, hF⟩, st⟩ | ⟨q, st₀, t, T', L, E, ce, h0, X', hL, e1, e2, ⟨u, hp, hb, hF⟩, hce, hcv, hcl, st⟩
  · cases hv
    obtain ⟨k1, k2, k3⟩ := vx_keep h0 e1 hS hA hf hL hF
    obtain ⟨t2, a1, b1⟩ := kk r u t T'.heap (locs ++ L) e1.symm (by rw [← e2]; exact X'.warmed.alike) hp hb k1 k2 k3 T' rfl X'
    exact ⟨t2, st t2 a1, b1⟩
  · obtain ⟨k1, k2, k3⟩ := vx_keep h0 e1 hS hAX hf hL hF
    obtain ⟨t2, a1, b1⟩ := kx E ce q u t T'.heap (locs ++ L) e1.symm (by rw [← e2]; exact X'.warmed.alike) hp hb k1 k2 k3 (by rw [e1]; exact hce) hcv hcl T' rfl X'
    exact ⟨t2, st.trans a1, b1⟩
theorem vx_callv {S SX : Type} {post : S → Prop} {px : SX → Prop} {B : S → State → Prop} {BX : String → SX → State → Prop} {AX : Nat → Prop} (hr : vx_Run p l e R s m args below meth c H locs cells slots mc ms (F0 m pc ls st0) rest (va_Qv post B A1 a) (vx_X px BX AX) free) (hS : va_S A0 H0 H locs) (hA : ∀ q, q < H.size → A1 q → A0 q) (hf : ∀ q, free q → A0 q) (hAX : ∀ q, q < H.size → AX q → A0 q)
    (kx : ∀ (E : String) (ce : Cell) (q9 : Addr) (u : SX) (t : State) (H1 : Heap) (locs1 : List Loc), t.heap = H1 → s.vm.Alike t.vm → px u → BX E u t → H.size ≤ H1.size → (∀ q : Nat, q < H.size → ¬ AX q → H1[q]? = H[q]?) → va_S A0 H0 H1 locs1 → H1[q9]? = some ce → ce.vm = .none → s.vm.findClass E = some ce.cls → vx_W p l e R s m args below meth c H1 locs1 (cells + mc) (slots + ms) Q (F0 m pc ls rest) q9)
    (kk : ∀ (u : S) (t : State) (H1 : Heap) (locs1 : List Loc), t.heap = H1 → s.vm.Alike t.vm → post u → B u t → H.size ≤ H1.size → (∀ q : Nat, q < H.size → ¬ A1 q → H1[q]? = H[q]?) → va_S A0 H0 H1 locs1 → W p l e R s m args below meth c H1 locs1 (cells + mc) (slots + ms) Q (F0 m (pc + 3) ls (rest))) : W p l e R s m args below meth c H locs cells slots Q (F0 m pc ls st0) := by
  intro T hT X
  rcases hr T hT X with ⟨v, st₀, t, T', L, h0, X', hL, e1, e2, ⟨⟨u, hv, hp, hb⟩, hF⟩, st⟩ | ⟨q, st₀, t, T', L, E, ce, h0, X', hL, e1, e2, ⟨u, hp, hb, hF⟩, hce, hcv, hcl, st⟩
  · cases hv
    obtain ⟨k1, k2, k3⟩ := vx_keep h0 e1 hS hA hf hL hF
    obtain ⟨t2, a1, b1⟩ := kk u t T'.heap (locs ++ L) e1.symm (by rw [← e2]; exact X'.warmed.alike) hp hb k1 k2 k3 T' rfl X'
    exact ⟨t2, st t2 a1, b1⟩
  · obtain ⟨k1, k2, k3⟩ := vx_keep h0 e1 hS hAX hf hL hF
    obtain ⟨t2, a1, b1⟩ := kx E ce q u t T'.heap (locs ++ L) e1.symm (by rw [← e2]; exact X'.warmed.alike) hp hb k1 k2 k3 (by rw [e1]; exact hce) hcv hcl T' rfl X'
    exact ⟨t2, st.trans a1, b1⟩
/-- caught by the row x of this method's table; the rows ahead don't take it -/
theorem vx_catch {own name : String} {E : String} {ce : Cell} {q : Addr} (hown : s.vm.findClass own = some m.cls) (pre : List ExceptionTableEntry) (x : ExceptionTableEntry) (suf : List ExceptionTableEntry) (hsplit : c.exceptionTable.toList = pre ++ x :: suf)
    (hpass : ∀ z ∈ pre, covers z pc = false ∨ (z.catchType ≠ 0 ∧ ∃ nm : String, (Cond.classLink own z.catchType nm).before args s = true ∧ va_Nc E nm s)) (hx : covers x pc = true) (h0 : x.catchType ≠ 0)
    (hlink : (Cond.classLink own x.catchType name).before args s = true) (hcast : (Cond.castable E name).before args s = true) (hcell : H[q]? = some ce) (hv : ce.vm = .none) (hcl : s.vm.findClass E = some ce.cls)
    (kk : W p l e R s m args below meth c H locs cells slots Q (F0 m x.handlerPc ls [.ref q])) : vx_W p l e R s m args below meth c H locs cells slots Q (F0 m pc ls rest) q := by
  intro T hT X
  have hpl : e.platform.magicAccessors = ({} : Platform).magicAccessors := by rw [X.admits.platform]
  obtain ⟨c3, c4, hc3, hc4, hasg⟩ := Cond.castable_spec hcast
  cases Option.some.inj (hc3.symm.trans hcl)
  obtain ⟨c5, hc5, hcl5⟩ := Cond.classLink_spec hown hlink e.platform hpl
  cases Option.some.inj (hc4.symm.trans hc5)
  obtain ⟨vm', X', st⟩ := xs_caught X q (g := F0 m pc ls rest) rfl (cell := ce) (by rw [hT]; exact hcell) (by rw [hv]; rfl) (by obtain ⟨k9, h9, -⟩ := Vm.findClass_spec hcl; exact ⟨k9, h9⟩) pre x suf hsplit
    (fun z hz => by
      rcases hpass z hz with h | ⟨hz0, nm, hl1, hn1⟩
      · exact Or.inl h
      · obtain ⟨c6, hc6, hcl6⟩ := Cond.classLink_spec hown hl1 e.platform hpl
        obtain ⟨a8, b8, h1, h2, h3⟩ := hn1
        cases Option.some.inj (h1.symm.trans hcl)
        cases Option.some.inj (h2.symm.trans hc6)
        exact Or.inr ⟨hz0, _, hcl6, h3⟩) hx h0 hcl5 hasg
  obtain ⟨t, a1, b1⟩ := kk (T.setVm vm') hT X'
  exact ⟨t, st t a1, b1⟩
end Rows
section Ends
variable {p : Program} {l : Launch} {e : Env} {R : Room} {s : State} {m : MethodId} {args : Array Value} {below : List Frame} {meth : Method} {c : Code} {H : Heap} {locs : List Loc} {cells slots : Nat} {Q : State → Prop}
variable {mc ms : Nat} {free : Addr → Prop} {A0 A1 : Nat → Prop} {H0 : Heap} {a : Array Value} {ls : Array Slot} {st0 rest : List Value}
variable {Qc : Array Value → State → Outcome → State → Prop} {XC : String → State → State → Prop}
/-- what a body that may throw owes at its end -/
def vx_MQ (below : List Frame) (Qc : Array Value → State → Outcome → State → Prop) (XC : String → State → State → Prop) (a : Array Value) (s : State) (mc ms : Nat) (free : Addr → Prop) : State → Prop := fun t =>
  ∃ o, t.status = .running ∧ Ended t below o ∧ vx_Q Qc XC mc ms free a s o t
theorem vx_ret {g : JFrame} {mc ms : Nat} (k : W p l e R s m args below meth c H locs cells slots (MQ below Qc args s mc ms free) g) : W p l e R s m args below meth c H locs cells slots (vx_MQ below Qc XC args s mc ms free) g := by
  intro T hT X
  obtain ⟨t, a1, o, b1, b2, b3, b4⟩ := k T hT X
  exact ⟨t, a1, o, b1, b2, Or.inl ⟨b3, b4⟩⟩
/-- not caught here: it goes on to the caller -/
theorem vx_widen {g : JFrame} {q : Addr} {k n : Nat} (h1 : cells ≤ k) (h2 : slots ≤ n) (kk : vx_W p l e R s m args below meth c H locs k n Q g q) : vx_W p l e R s m args below meth c H locs cells slots Q g q := fun T hT X => kk T hT (stand_widen X h1 h2)
theorem vx_out {pc : Nat} {E : String} {ce : Cell} {q : Addr} {mc ms : Nat} (hout : ∀ x ∈ c.exceptionTable.toList, covers x pc = false) (hlocks : meth.locks = false) (hcell : H[q]? = some ce) (hv : ce.vm = .none) (hcl : s.vm.findClass E = some ce.cls)
    (hx : ∀ t : State, t.heap = H → s.vm.Alike t.vm → XC E s t) (hf : ∀ z ∈ locs, free z.base) (hc : cells ≤ mc) (hs : slots ≤ ms) :
    vx_W p l e R s m args below meth c H locs cells slots (vx_MQ below Qc XC args s mc ms free) (F0 m pc ls rest) q := by
  intro T hT X
  obtain ⟨st1, hrun, hend, hW, hsm⟩ := X.leaveThrown q (g := F0 m pc ls rest) rfl rfl rfl hout hlocks
  have hcell9 : (T.setFrames (.throwing q :: below)).heap[q]? = some ce := by
    show T.heap[q]? = some ce
    rw [hT]; exact hcell
  exact ⟨_, st1, .threw q, hrun, hend, Or.inr ⟨q, rfl, E, ce, locs, hx _ hT hW.alike, hcell9, hv, hcl, hW, hsm.mono hc hs, hf⟩⟩
theorem vx_frame {U : State} {k n : Nat} (h : s.sameButNew ({ U with vm := s.vm } : State) locs k n) : s.heap.size ≤ U.heap.size ∧ ∀ q : Nat, q < s.heap.size → (∀ z ∈ locs, z.base ≠ q) → U.heap[q]? = s.heap[q]? := by
  obtain ⟨-, h2, -, -, -, h6⟩ := h
  refine ⟨h2, fun q hq hz => ?_⟩
  obtain ⟨c9, e1, e2, e3, e4⟩ := h6 q _ (Array.getElem?_eq_getElem hq)
  have hs : c9.slots = (s.heap[q]).slots := Array.ext_getElem? fun i => e4 i fun hm => hz _ hm rfl
  have h9 : c9 = s.heap[q] := by
    rw [hs] at e2
    exact e2
  have e5 : U.heap[q]? = some c9 := e1
  rw [e5, h9, Array.getElem?_eq_getElem hq]
/-- the words of a throw but the four that speak of the heap -/
def vx_no (w : Cond) : Bool := decide (w ≠ .isRef (.static Bundle.tN "UNASSIGNED_STACK" Bundle.steD)) && decide (w ≠ .isRef (.static Bundle.tN "SUPPRESSED_SENTINEL" Bundle.listD)) && decide (w ≠ .laysStatic Bundle.tN "UNASSIGNED_STACK" Bundle.steD) && decide (w ≠ .laysStatic Bundle.tN "SUPPRESSED_SENTINEL" Bundle.listD)
def vx_at0 (own : String) (ic : Nat) (X : String) (names : List String) : List Cond := (Bundle.ownAtoms0 own ic X names).filter vx_no
def vx_atS (own : String) (ic : Nat) (X : String) (names : List String) : List Cond := (Bundle.ownAtoms own ic X names).filter vx_no
/-- a word that the tables alone decide, or a good one -/
def vx_ot (w : Cond) : Bool := w.onTables || goodWord w
theorem vx_ot_at {args a' : Array Value} {s U : State} {w : Cond} (hW : s.WarmedH U.vm) (hvm : s.vm = U.vm) (hg : vx_ot w = true) (h : w.before args s = true) : w.before a' U = true := by
  simp only [vx_ot, Bool.or_eq_true] at hg
  rcases hg with hg | hg
  · exact va_tabs hg hvm h
  · exact word_at hW (good_of_word hg) h
/-- a list's words: the good ones out of the method's own list, the others by premises of their own -/
theorem vx_hat {args : Array Value} {s : State} {L B : List Cond} (h1 : ∀ w ∈ L.filter goodWord, w.before args s = true) (h2 : ∀ w ∈ L.filter (fun w => !goodWord w), w ∈ B) (h3 : ∀ w ∈ B, w.before args s = true) : ∀ w ∈ L, w.before args s = true := by
  intro w hw
  by_cases g : goodWord w = true
  · exact h1 w (List.mem_filter.mpr ⟨hw, g⟩)
  · refine h3 w (h2 w (List.mem_filter.mpr ⟨hw, ?_⟩))
    show (!goodWord w) = true
    cases hgw : goodWord w
    · rfl
    · exact absurd hgw g
theorem vx_c {args : Array Value} {s : State} {w : Cond} {B : List Cond} (h : w.before args s = true) (t : ∀ w ∈ B, w.before args s = true) : ∀ w' ∈ w :: B, w'.before args s = true := fun w' h' => (List.mem_cons.mp h').elim (fun e => by rw [e]; exact h) (t w')
theorem vx_n {args : Array Value} {s : State} : ∀ w ∈ ([] : List Cond), w.before args s = true := fun _ h => nomatch h
theorem vx_own {args : Array Value} {s : State} {L : List Cond} (h1 : ∀ w ∈ L.filter vx_no, w.before args s = true)
    (hU : (Cond.isRef (.static Bundle.tN "UNASSIGNED_STACK" Bundle.steD)).before args s = true) (hN : (Cond.isRef (.static Bundle.tN "SUPPRESSED_SENTINEL" Bundle.listD)).before args s = true)
    (lU : (Cond.laysStatic Bundle.tN "UNASSIGNED_STACK" Bundle.steD).before args s = true) (lN : (Cond.laysStatic Bundle.tN "SUPPRESSED_SENTINEL" Bundle.listD).before args s = true) : ∀ w ∈ L, w.before args s = true := by
  intro w hw
  by_cases e1 : w = .isRef (.static Bundle.tN "UNASSIGNED_STACK" Bundle.steD)
  · rw [e1]; exact hU
  · by_cases e2 : w = .isRef (.static Bundle.tN "SUPPRESSED_SENTINEL" Bundle.listD)
    · rw [e2]; exact hN
    · by_cases e3 : w = .laysStatic Bundle.tN "UNASSIGNED_STACK" Bundle.steD
      · rw [e3]; exact lU
      · by_cases e4 : w = .laysStatic Bundle.tN "SUPPRESSED_SENTINEL" Bundle.listD
        · rw [e4]; exact lN
        · exact h1 w (List.mem_filter.mpr ⟨hw, by unfold vx_no; rw [decide_eq_true e1, decide_eq_true e2, decide_eq_true e3, decide_eq_true e4]; rfl⟩)
/-- where a static field lies, its class's statics cell in H -/
def vx_L (C n d : String) (A : Nat → Prop) (U : State) (H : Heap) : Prop := ∃ (c : ClassId) (k : Class) (i : Nat) (f : Field) (a : Nat) (cell : Cell), U.vm.findClass C = some c ∧ U.fieldFound? C n d = some (c, k, i, f) ∧ f.isStatic = true ∧ k.statics = some a ∧ H[a]? = some cell ∧ cell.vm.isStatics = true ∧ cell.cls = c ∧ f.slot < cell.slots.size ∧ k.staticTypes[f.slot]? = some f.type ∧ ¬ A a
theorem vx_L.moved {C n d : String} {A : Nat → Prop} {u U : State} {H : Heap} (hvm : u.vm.Alike U.vm) (h : vx_L C n d A u H) : vx_L C n d A U H := by
  obtain ⟨c, k, i, f, a, cell, h1, h2, h3, h4, h5, h6, h7, h8, h9, h10⟩ := h
  obtain ⟨k', hi', he⟩ := State.fieldFound?_setVm hvm h2
  exact ⟨c, k', i, f, a, cell, by rw [hvm.findClass]; exact h1, hi', h3, by rw [he]; exact h4, h5, h6, h7, h8, by rw [he]; exact h9, h10⟩
theorem vx_L.kept {C n d : String} {A : Nat → Prop} {U : State} {H H1 : Heap} (h : vx_L C n d A U H) (hq : ∀ a : Nat, a < H.size → ¬ A a → H1[a]? = H[a]?) : vx_L C n d A U H1 := by
  obtain ⟨c, k, i, f, a, cell, h1, h2, h3, h4, h5, h6, h7, h8, h9, h10⟩ := h
  exact ⟨c, k, i, f, a, cell, h1, h2, h3, h4, by rw [hq a (Array.getElem?_eq_some_iff.mp h5).1 h10]; exact h5, h6, h7, h8, h9, h10⟩
theorem vx_L.narrow {C n d : String} {A B : Nat → Prop} {U : State} {H : Heap} (h : vx_L C n d A U H) (hAB : ∀ q, B q → A q) : vx_L C n d B U H := by
  obtain ⟨c, k, i, f, a, cell, h1, h2, h3, h4, h5, h6, h7, h8, h9, h10⟩ := h
  exact ⟨c, k, i, f, a, cell, h1, h2, h3, h4, h5, h6, h7, h8, h9, fun z => h10 (hAB _ z)⟩
theorem vx_L.word {C n d : String} {A : Nat → Prop} {s : State} {args : Array Value} (h : vx_L C n d A s s.heap) : (Cond.laysStatic C n d).before args s = true := by
  obtain ⟨c, k, i, f, a, cell, h1, h2, h3, h4, h5, h6, h7, h8, h9, -⟩ := h
  show (Cond.laysStatic C n d).holds args s none s [] = true
  exact Cond.laysStatic_of h1 h2 h3 h4 h5 h6 h7 h8 h9
/-- .. and what it holds: null or some reference -/
def vx_Zq (C n d : String) (A : Nat → Prop) (U : State) (H : Heap) : Prop := va_Zq C n d A U H ∧ vx_L C n d A U H
theorem vx_Zq.moved {C n d : String} {A : Nat → Prop} {u U : State} {H : Heap} (hvm : u.vm.Alike U.vm) (h : vx_Zq C n d A u H) : vx_Zq C n d A U H := ⟨va_Zq.moved hvm h.1, vx_L.moved hvm h.2⟩
theorem vx_Zq.kept {C n d : String} {A : Nat → Prop} {U : State} {H H1 : Heap} (h : vx_Zq C n d A U H) (hq : ∀ a : Nat, a < H.size → ¬ A a → H1[a]? = H[a]?) : vx_Zq C n d A U H1 := ⟨va_Zq.kept h.1 hq, vx_L.kept h.2 hq⟩
theorem vx_Zq.narrow {C n d : String} {A B : Nat → Prop} {U : State} {H : Heap} (h : vx_Zq C n d A U H) (hAB : ∀ q, B q → A q) : vx_Zq C n d B U H := ⟨va_Zq.narrow h.1 hAB, vx_L.narrow h.2 hAB⟩
theorem vx_Zqof {args : Array Value} {s : State} {C n d : String} {A : Nat → Prop} (hl : (Cond.laysStatic C n d).before args s = true) (hini : (Cond.initialized C).before args s = true) (h : (Cond.isRef (.static C n d)).before args s = true) (hA : ∀ a : Nat, a < s.heap.size → ¬ A a) : vx_Zq C n d A s s.heap := by
  refine ⟨va_Zqof hl hini h hA, ?_⟩
  obtain ⟨c, k, i, f, a, cell, h1, h2, h3, h4, h5, h6, h7, h8, h9⟩ := Cond.laysStatic_spec hl
  exact ⟨c, k, i, f, a, cell, h1, h2, h3, h4, h5, h6, h7, h8, h9, hA a (Array.getElem?_eq_some_iff.mp h5).1⟩
theorem vx_isRef {C n d : String} {v : Value} {A : Nat → Prop} {s : State} {args : Array Value} (h : va_Z C n d v A s s.heap) (hv : v.isRef = true) : (Cond.isRef (.static C n d)).before args s = true := by
  obtain ⟨cf, kf, fi, f, a, cell, h1, h2, h3, h4, h5, h6, h7, -⟩ := h
  have he : (Term.static C n d).eval args s none [] s = some v := by
    simp [Term.eval, State.fieldNamed?, h1, h2, h4, h5, h6, h7]
  simp only [Cond.before, Cond.holds, Cond.value, he]
  cases v <;> simp_all [Value.isRef]
theorem vx_isRefq {C n d : String} {A : Nat → Prop} {s : State} {args : Array Value} (h : va_Zq C n d A s s.heap) : (Cond.isRef (.static C n d)).before args s = true := by
  rcases h with h | ⟨t, h⟩
  · exact vx_isRef h rfl
  · exact vx_isRef h rfl
/-- the same frame, seen from here: as if the method were called anew in this heap -/
theorem vx_rebase {T : State} (X : Stand p l e R s m args below meth c T locs cells slots) {R' : Room} (hf : R'.frames ≤ R.frames) (hl : R'.locals ≤ R.locals) (hc : cells + R'.cells ≤ R.cells) (hs : slots + R'.slots ≤ R.slots) :
    Stand p l e R' ((T.setVm s.vm).setFrames (.invoking m args :: below)) m args below meth c T [] 0 0 := by
  have htop : (T.setVm s.vm).topJava?.isSome := X.here.top
  have hF : ((T.setVm s.vm).setFrames (.invoking m args :: below)).frames = .invoking m args :: below := State.frames_setFrames _ (State.cur_lt_of_top htop)
  obtain ⟨g₀, hg0⟩ := Option.isSome_iff_exists.mp htop
  obtain ⟨r, hr⟩ := State.topJava?_eq_some.mp hg0
  have hl9 : e.platform.stackLimits (T.setVm s.vm).me = e.platform.stackLimits s.me := X.limits
  have hb9 : (T.setVm s.vm).me.stackBytes = s.me.stackBytes := X.bytes
  refine ⟨X.admits, X.cas, X.clock, hF, ?_, X.hears, X.method, X.code, X.here, X.tail, X.warmed, ?_, ?_, ?_⟩
  · have h := X.room
    have hU : ((T.setVm s.vm).setFrames (.invoking m args :: below)).localsInUse = s.localsInUse := by
      rw [State.localsInUse_invoking hF (meth := meth) (c := c) X.method X.code, State.localsInUse_invoking X.frames X.method X.code]
    simp only [State.hasRoom, Bool.and_eq_true, decide_eq_true_eq] at h ⊢
    obtain ⟨⟨⟨⟨h1, h2, h3, h4, h5, h6⟩, h7⟩, h8⟩, h9⟩ := h
    rw [X.frames, List.length_cons] at h2 h3
    have q1 := X.heapSize
    have q2 := X.used
    simp only [hF, hU, List.length_cons, State.stackLimits_setFrames, State.stackBytes_setFrames, hl9, hb9]
    refine ⟨⟨⟨⟨by omega, by omega, by omega, by omega, by omega, h6⟩, ?_⟩, ?_⟩, X.book⟩
    · show T.heap.size + R'.cells ≤ e.platform.maxCells
      omega
    · show T.slotsUsed + R'.slots ≤ e.platform.maxSlots
      omega
  · rw [State.stackLimits_setFrames]; rfl
  · rw [State.stackBytes_setFrames]; rfl
  · refine ⟨?_, Nat.le_refl _, Nat.le_refl _, ?_, ?_, fun a c9 h9 => ⟨c9, h9, rfl, rfl, fun _ _ => rfl⟩⟩
    · obtain ⟨t, ht, -⟩ := State.frames_cons hr
      show T.setVm s.vm = { ((T.setVm s.vm).setFrames (.invoking m args :: below)).setFrames (T.setVm s.vm).frames with heap := T.heap, slotsUsed := T.slotsUsed }
      rw [State.setFrames_setFrames, State.setFrames_self ht]
      rfl
    · show T.slotsUsed = T.slotsUsed + ((T.heap.toList.drop T.heap.size).map (·.slots.size)).sum
      rw [List.drop_eq_nil_of_le (Nat.le_of_eq Array.length_toList)]
      rfl
    · show ((T.heap.toList.drop T.heap.size).map (·.slots.size)).sum ≤ 0
      rw [List.drop_eq_nil_of_le (Nat.le_of_eq Array.length_toList)]
      exact Nat.le_refl _
/-- 'throw new E()': new; dup; invokespecial; athrow -/
theorem vx_throw0 {cc : ByteArray} {pc : Nat} (hexec : p.tables.exec = Jvm.exec) (hb : c.code = cc) (hl : l.stackTraces = false) {own cls : String} {names : List String} {ik ic mc ms : Nat} {A : Nat → Prop}
    (hown : s.vm.findClass own = some m.cls) (hcls : Bundle.fit cls = true) (hnames : ∀ n ∈ names, Bundle.fit n = true)
    (hk : (Cond.classLink own ik cls).before args s = true) (hini : (Cond.initialized cls).before args s = true) (hat : ∀ w ∈ vx_at0 own ic cls names, w.before args s = true)
    (hgood : ∀ w ∈ Cond.classLink own ik cls :: Cond.initialized cls :: vx_at0 own ic cls names, vx_ot w = true)
    (hU : vx_Zq Bundle.tN "UNASSIGNED_STACK" Bundle.steD A s s.heap) (hN : vx_Zq Bundle.tN "SUPPRESSED_SENTINEL" Bundle.listD A s s.heap) (hS : va_S A s.heap H locs) (hsize : ls.size = c.maxLocals)
    (d0 : decode cc pc = .ok (.new ik, 3)) (d3 : decode cc (pc + 3) = .ok (.dup, 1)) (d4 : decode cc (pc + 4) = .ok (.invokespecial ic, 3)) (d7 : decode cc (pc + 7) = .ok (.athrow, 1))
    (hout : ∀ x ∈ c.exceptionTable.toList, covers x (pc + 7) = false)
    (hRframes : names.length + 3 < R.frames) (hRlocals : (rest.map fun v => v.category).sum + (13 * (names.length + 1) + 42) ≤ R.locals) (hRcells : cells + 1 ≤ R.cells) (hRslots : slots + 6 ≤ R.slots) (hlocks : meth.locks = false)
    (hx : ∀ t : State, s.vm.Alike t.vm → H.size ≤ t.heap.size → (∀ q : Nat, q < H.size → t.heap[q]? = H[q]?) → XC cls s t)
    (hf : ∀ z ∈ locs, free z.base) (hc : cells + 1 ≤ mc) (hs : slots + 6 ≤ ms) :
    W p l e R s m args below meth c H locs cells slots (vx_MQ below Qc XC args s mc ms free) (F0 m pc ls rest) := by
  intro T hT X
  have htr : e.platform.stackTraces = false := (show e.platform.stackTraces = l.stackTraces by rw [X.admits.platform]).trans hl
  have Y := vx_rebase X (R' := { frames := R.frames, locals := R.locals, cells := 1, slots := 6 }) (Nat.le_refl _) (Nat.le_refl _) hRcells hRslots
  obtain ⟨s', hA⟩ : ∃ z, z = (T.setVm s.vm).setFrames (.invoking m args :: below) := ⟨_, rfl⟩
  rw [← hA] at Y
  have hvm : s'.vm = s.vm := by rw [hA]; rfl
  have hhp : s'.heap = H := by rw [hA]; exact hT
  have hW0 : s.WarmedH s'.vm := by rw [hvm]; exact State.WarmedH.refl s
  have hat' : ∀ w ∈ vx_at0 own ic cls names, w.before args s' = true := fun w hw => vx_ot_at hW0 hvm.symm (hgood w (List.mem_cons_of_mem _ (List.mem_cons_of_mem _ hw))) (hat w hw)
  have hk' : (Cond.classLink own ik cls).before args s' = true := vx_ot_at hW0 hvm.symm (hgood _ List.mem_cons_self) hk
  have hini' : (Cond.initialized cls).before args s' = true := vx_ot_at hW0 hvm.symm (hgood _ (List.mem_cons_of_mem _ List.mem_cons_self)) hini
  have hU' : vx_Zq Bundle.tN "UNASSIGNED_STACK" Bundle.steD A s' s'.heap := by rw [hhp]; exact vx_Zq.moved hW0.alike (hU.kept hS.2.1)
  have hN' : vx_Zq Bundle.tN "SUPPRESSED_SENTINEL" Bundle.listD A s' s'.heap := by rw [hhp]; exact vx_Zq.moved hW0.alike (hN.kept hS.2.1)
  have h : ∀ w ∈ Bundle.ownAtoms0 own ic cls names, w.before args s' = true := vx_own hat' (vx_isRefq hU'.1) (vx_isRefq hN'.1) hU'.2.word hN'.2.word
  have hown' : s'.vm.findClass own = some m.cls := by rw [hvm]; exact hown
  have hins : (Cond.instantiable cls 6).before args s' = true := h _ (by simp [Bundle.ownAtoms0])
  obtain ⟨vm₁, cX, kX, hfX, hkX, -, -, X₁, st1⟩ := Y.newCold hexec (own := own) (C := cls) (index := ik) (n := 6) hown' hk' hins hini'
    (g := F0 m pc ls rest) rfl (by rw [hb]; exact d0) (Nat.le_refl _) (Nat.le_refl _)
  generalize hT1 : (T.setVm vm₁).pushCell { cls := cX, slots := kX.instanceTypes.map defaultValue, vm := .none } = T1 at X₁ st1
  have hcat : (Value.ref T.heap.size).category = 1 := rfl
  have hcellA : T1.heap[T.heap.size]? = some (freshCell cX kX) := by rw [← hT1]; exact State.heap_pushCell_size _ _
  have d3' : decode c.code (pc + 3) = .ok (.dup, 1) := by rw [hb]; exact d3
  obtain ⟨U, hsteps, hrun, hend, hW, hsame, ce, hce, hO⟩ := X₁.ctorThrow0 hexec htr (own := own) (cls := cls) (names := names) (ic := ic) hown' hcls hnames h (fun x hx => nomatch hx) hfX hkX hcellA (by rw [hhp, hT]; exact Nat.le_refl _)
    (g := { method := m, pc := pc + 4, locals := ls, stack := .ref T.heap.size :: .ref T.heap.size :: rest, locked := none }) rfl hsize rfl rfl (rest := rest) rfl
    (by rw [hb]; exact d4) (by rw [hb]; exact d7) hout hRframes (by simp only [List.map_cons, List.sum_cons, hcat]; omega) hlocks
  obtain ⟨f1, f2⟩ := vx_frame hsame
  rw [hhp] at f1 f2
  have hWs : s.WarmedH U.vm := State.WarmedH.trans hW0 hW
  have hcl : s.vm.findClass cls = some ce.cls := by
    have h9 := hO.cls
    rw [hvm] at h9
    exact h9
  have hall : s.sameButNew ({ U with vm := s.vm } : State) locs mc ms := by
    subst hA
    obtain ⟨e1, e2⟩ := hsame
    rw [State.setFrames_setFrames] at e1
    have h2 : (T.setVm s.vm).sameButNew ({ U with vm := s.vm } : State) [] (0 + 1) (0 + 6) := ⟨e1, e2⟩
    have h3 := X.same.trans h2
    rw [List.append_nil] at h3
    exact h3.mono hc hs
  refine ⟨U, ?_, .threw T.heap.size, hrun, hend, Or.inr ⟨T.heap.size, rfl, cls, ce, locs, hx U hWs.alike f1 (fun q hq => f2 q hq (fun z hz => nomatch hz)), hce, hO.vm, hcl, hWs, hall, hf⟩⟩
  refine st1 _ ?_
  show Steps p.tables e below (T1.setTop { method := m, pc := pc + 3, locals := ls, stack := .ref T.heap.size :: rest, locked := none }) _
  jvm_step X₁.here [X₁.here.top, hexec, d3', Value.category]
  exact hsteps
/-- 'throw new E("text")': new; dup; ldc; invokespecial; athrow -/
theorem vx_throwS {cc : ByteArray} {pc : Nat} (hexec : p.tables.exec = Jvm.exec) (hb : c.code = cc) (hl : l.stackTraces = false) {own cls text : String} {names : List String} {ik is ic mc ms sa : Nat} {A : Nat → Prop}
    (hown : s.vm.findClass own = some m.cls) (hcls : Bundle.fit cls = true) (hnames : ∀ n ∈ names, Bundle.fit n = true)
    (hk : (Cond.classLink own ik cls).before args s = true) (hini : (Cond.initialized cls).before args s = true) (hstr : vk_R own is text sa s) (hat : ∀ w ∈ vx_atS own ic cls names, w.before args s = true)
    (hgood : ∀ w ∈ Cond.classLink own ik cls :: Cond.initialized cls :: vx_atS own ic cls names, vx_ot w = true)
    (hU : vx_Zq Bundle.tN "UNASSIGNED_STACK" Bundle.steD A s s.heap) (hN : vx_Zq Bundle.tN "SUPPRESSED_SENTINEL" Bundle.listD A s s.heap) (hS : va_S A s.heap H locs) (hsize : ls.size = c.maxLocals)
    (d0 : decode cc pc = .ok (.new ik, 3)) (d3 : decode cc (pc + 3) = .ok (.dup, 1)) (d4 : decode cc (pc + 4) = .ok (.ldc is, 2)) (d6 : decode cc (pc + 6) = .ok (.invokespecial ic, 3)) (d9 : decode cc (pc + 9) = .ok (.athrow, 1))
    (hout : ∀ x ∈ c.exceptionTable.toList, covers x (pc + 9) = false)
    (hRframes : names.length + 3 < R.frames) (hRlocals : (rest.map fun v => v.category).sum + (13 * (names.length + 1) + 43) ≤ R.locals) (hRcells : cells + 1 ≤ R.cells) (hRslots : slots + 6 ≤ R.slots) (hlocks : meth.locks = false)
    (hx : ∀ t : State, s.vm.Alike t.vm → H.size ≤ t.heap.size → (∀ q : Nat, q < H.size → t.heap[q]? = H[q]?) → XC cls s t)
    (hf : ∀ z ∈ locs, free z.base) (hc : cells + 1 ≤ mc) (hs : slots + 6 ≤ ms) :
    W p l e R s m args below meth c H locs cells slots (vx_MQ below Qc XC args s mc ms free) (F0 m pc ls rest) := by
  intro T hT X
  have htr : e.platform.stackTraces = false := (show e.platform.stackTraces = l.stackTraces by rw [X.admits.platform]).trans hl
  have Y := vx_rebase X (R' := { frames := R.frames, locals := R.locals, cells := 1, slots := 6 }) (Nat.le_refl _) (Nat.le_refl _) hRcells hRslots
  obtain ⟨s', hA⟩ : ∃ z, z = (T.setVm s.vm).setFrames (.invoking m args :: below) := ⟨_, rfl⟩
  rw [← hA] at Y
  have hvm : s'.vm = s.vm := by rw [hA]; rfl
  have hhp : s'.heap = H := by rw [hA]; exact hT
  have hW0 : s.WarmedH s'.vm := by rw [hvm]; exact State.WarmedH.refl s
  have hat' : ∀ w ∈ vx_atS own ic cls names, w.before args s' = true := fun w hw => vx_ot_at hW0 hvm.symm (hgood w (List.mem_cons_of_mem _ (List.mem_cons_of_mem _ hw))) (hat w hw)
  have hk' : (Cond.classLink own ik cls).before args s' = true := vx_ot_at hW0 hvm.symm (hgood _ List.mem_cons_self) hk
  have hini' : (Cond.initialized cls).before args s' = true := vx_ot_at hW0 hvm.symm (hgood _ (List.mem_cons_of_mem _ List.mem_cons_self)) hini
  have hU' : vx_Zq Bundle.tN "UNASSIGNED_STACK" Bundle.steD A s' s'.heap := by rw [hhp]; exact vx_Zq.moved hW0.alike (hU.kept hS.2.1)
  have hN' : vx_Zq Bundle.tN "SUPPRESSED_SENTINEL" Bundle.listD A s' s'.heap := by rw [hhp]; exact vx_Zq.moved hW0.alike (hN.kept hS.2.1)
  have h : ∀ w ∈ Bundle.ownAtoms own ic cls names, w.before args s' = true := vx_own hat' (vx_isRefq hU'.1) (vx_isRefq hN'.1) hU'.2.word hN'.2.word
  have hown' : s'.vm.findClass own = some m.cls := by rw [hvm]; exact hown
  have hins : (Cond.instantiable cls 6).before args s' = true := h _ (by simp [Bundle.ownAtoms])
  obtain ⟨vm₁, cX, kX, hfX, hkX, -, -, X₁, st1⟩ := Y.newCold hexec (own := own) (C := cls) (index := ik) (n := 6) hown' hk' hins hini'
    (g := F0 m pc ls rest) rfl (by rw [hb]; exact d0) (Nat.le_refl _) (Nat.le_refl _)
  generalize hT1 : (T.setVm vm₁).pushCell { cls := cX, slots := kX.instanceTypes.map defaultValue, vm := .none } = T1 at X₁ st1
  have hcat : (Value.ref T.heap.size).category = 1 := rfl
  have hcellA : T1.heap[T.heap.size]? = some (freshCell cX kX) := by rw [← hT1]; exact State.heap_pushCell_size _ _
  have d3' : decode c.code (pc + 3) = .ok (.dup, 1) := by rw [hb]; exact d3
  have d4' : decode c.code (pc + 4) = .ok (.ldc is, 2) := by rw [hb]; exact d4
  have hstr' : vk_R own is text sa s' := vk_R.warm hW0 hstr
  obtain ⟨U, hsteps, hrun, hend, hW, hsame, ce, hce, hO⟩ := X₁.ctorThrowS hexec htr (own := own) (cls := cls) (names := names) (ic := ic) hown' hcls hnames h (fun x hx => nomatch hx) hfX hkX hcellA (by rw [hhp, hT]; exact Nat.le_refl _) (msg := .ref sa) rfl
    (g := { method := m, pc := pc + 6, locals := ls, stack := .ref sa :: .ref T.heap.size :: .ref T.heap.size :: rest, locked := none }) rfl hsize rfl rfl (rest := rest) rfl
    (by rw [hb]; exact d6) (by rw [hb]; exact d9) hout hRframes (by simp only [List.map_cons, List.sum_cons, hcat]; omega) hlocks
  obtain ⟨f1, f2⟩ := vx_frame hsame
  rw [hhp] at f1 f2
  have hWs : s.WarmedH U.vm := State.WarmedH.trans hW0 hW
  have hcl : s.vm.findClass cls = some ce.cls := by
    have h9 := hO.cls
    rw [hvm] at h9
    exact h9
  have hall : s.sameButNew ({ U with vm := s.vm } : State) locs mc ms := by
    subst hA
    obtain ⟨e1, e2⟩ := hsame
    rw [State.setFrames_setFrames] at e1
    have h2 : (T.setVm s.vm).sameButNew ({ U with vm := s.vm } : State) [] (0 + 1) (0 + 6) := ⟨e1, e2⟩
    have h3 := X.same.trans h2
    rw [List.append_nil] at h3
    exact h3.mono hc hs
  refine ⟨U, ?_, .threw T.heap.size, hrun, hend, Or.inr ⟨T.heap.size, rfl, cls, ce, locs, hx U hWs.alike f1 (fun q hq => f2 q hq (fun z hz => nomatch hz)), hce, hO.vm, hcl, hWs, hall, hf⟩⟩
  refine st1 _ ?_
  show Steps p.tables e below (T1.setTop { method := m, pc := pc + 3, locals := ls, stack := .ref T.heap.size :: rest, locked := none }) _
  jvm_step X₁.here [X₁.here.top, hexec, d3', Value.category]
  exact X₁.ldcString hexec (own := own) (text := text) (index := is) (a := sa) hown' hstr'.1 hstr'.2
    (g := { method := m, pc := pc + 4, locals := ls, stack := .ref T.heap.size :: .ref T.heap.size :: rest, locked := none }) rfl d4' _ hsteps
/-- 'throw new E("text")', the text by a wide index -/
theorem vx_throwSW {cc : ByteArray} {pc : Nat} (hexec : p.tables.exec = Jvm.exec) (hb : c.code = cc) (hl : l.stackTraces = false) {own cls text : String} {names : List String} {ik is ic mc ms sa : Nat} {A : Nat → Prop}
    (hown : s.vm.findClass own = some m.cls) (hcls : Bundle.fit cls = true) (hnames : ∀ n ∈ names, Bundle.fit n = true)
    (hk : (Cond.classLink own ik cls).before args s = true) (hini : (Cond.initialized cls).before args s = true) (hstr : vk_R own is text sa s) (hat : ∀ w ∈ vx_atS own ic cls names, w.before args s = true)
    (hgood : ∀ w ∈ Cond.classLink own ik cls :: Cond.initialized cls :: vx_atS own ic cls names, vx_ot w = true)
    (hU : vx_Zq Bundle.tN "UNASSIGNED_STACK" Bundle.steD A s s.heap) (hN : vx_Zq Bundle.tN "SUPPRESSED_SENTINEL" Bundle.listD A s s.heap) (hS : va_S A s.heap H locs) (hsize : ls.size = c.maxLocals)
    (d0 : decode cc pc = .ok (.new ik, 3)) (d3 : decode cc (pc + 3) = .ok (.dup, 1)) (d4 : decode cc (pc + 4) = .ok (.ldc_w is, 3)) (d7 : decode cc (pc + 7) = .ok (.invokespecial ic, 3)) (d10 : decode cc (pc + 10) = .ok (.athrow, 1))
    (hout : ∀ x ∈ c.exceptionTable.toList, covers x (pc + 10) = false)
    (hRframes : names.length + 3 < R.frames) (hRlocals : (rest.map fun v => v.category).sum + (13 * (names.length + 1) + 43) ≤ R.locals) (hRcells : cells + 1 ≤ R.cells) (hRslots : slots + 6 ≤ R.slots) (hlocks : meth.locks = false)
    (hx : ∀ t : State, s.vm.Alike t.vm → H.size ≤ t.heap.size → (∀ q : Nat, q < H.size → t.heap[q]? = H[q]?) → XC cls s t)
    (hf : ∀ z ∈ locs, free z.base) (hc : cells + 1 ≤ mc) (hs : slots + 6 ≤ ms) :
    W p l e R s m args below meth c H locs cells slots (vx_MQ below Qc XC args s mc ms free) (F0 m pc ls rest) := by
  intro T hT X
  have htr : e.platform.stackTraces = false := (show e.platform.stackTraces = l.stackTraces by rw [X.admits.platform]).trans hl
  have Y := vx_rebase X (R' := { frames := R.frames, locals := R.locals, cells := 1, slots := 6 }) (Nat.le_refl _) (Nat.le_refl _) hRcells hRslots
  obtain ⟨s', hA⟩ : ∃ z, z = (T.setVm s.vm).setFrames (.invoking m args :: below) := ⟨_, rfl⟩
  rw [← hA] at Y
  have hvm : s'.vm = s.vm := by rw [hA]; rfl
  have hhp : s'.heap = H := by rw [hA]; exact hT
  have hW0 : s.WarmedH s'.vm := by rw [hvm]; exact State.WarmedH.refl s
  have hat' : ∀ w ∈ vx_atS own ic cls names, w.before args s' = true := fun w hw => vx_ot_at hW0 hvm.symm (hgood w (List.mem_cons_of_mem _ (List.mem_cons_of_mem _ hw))) (hat w hw)
  have hk' : (Cond.classLink own ik cls).before args s' = true := vx_ot_at hW0 hvm.symm (hgood _ List.mem_cons_self) hk
  have hini' : (Cond.initialized cls).before args s' = true := vx_ot_at hW0 hvm.symm (hgood _ (List.mem_cons_of_mem _ List.mem_cons_self)) hini
  have hU' : vx_Zq Bundle.tN "UNASSIGNED_STACK" Bundle.steD A s' s'.heap := by rw [hhp]; exact vx_Zq.moved hW0.alike (hU.kept hS.2.1)
  have hN' : vx_Zq Bundle.tN "SUPPRESSED_SENTINEL" Bundle.listD A s' s'.heap := by rw [hhp]; exact vx_Zq.moved hW0.alike (hN.kept hS.2.1)
  have h : ∀ w ∈ Bundle.ownAtoms own ic cls names, w.before args s' = true := vx_own hat' (vx_isRefq hU'.1) (vx_isRefq hN'.1) hU'.2.word hN'.2.word
  have hown' : s'.vm.findClass own = some m.cls := by rw [hvm]; exact hown
  have hins : (Cond.instantiable cls 6).before args s' = true := h _ (by simp [Bundle.ownAtoms])
  obtain ⟨vm₁, cX, kX, hfX, hkX, -, -, X₁, st1⟩ := Y.newCold hexec (own := own) (C := cls) (index := ik) (n := 6) hown' hk' hins hini'
    (g := F0 m pc ls rest) rfl (by rw [hb]; exact d0) (Nat.le_refl _) (Nat.le_refl _)
  generalize hT1 : (T.setVm vm₁).pushCell { cls := cX, slots := kX.instanceTypes.map defaultValue, vm := .none } = T1 at X₁ st1
  have hcat : (Value.ref T.heap.size).category = 1 := rfl
  have hcellA : T1.heap[T.heap.size]? = some (freshCell cX kX) := by rw [← hT1]; exact State.heap_pushCell_size _ _
  have d3' : decode c.code (pc + 3) = .ok (.dup, 1) := by rw [hb]; exact d3
  have d4' : decode c.code (pc + 4) = .ok (.ldc_w is, 3) := by rw [hb]; exact d4
  have hstr' : vk_R own is text sa s' := vk_R.warm hW0 hstr
  obtain ⟨U, hsteps, hrun, hend, hW, hsame, ce, hce, hO⟩ := X₁.ctorThrowS hexec htr (own := own) (cls := cls) (names := names) (ic := ic) hown' hcls hnames h (fun x hx => nomatch hx) hfX hkX hcellA (by rw [hhp, hT]; exact Nat.le_refl _) (msg := .ref sa) rfl
    (g := { method := m, pc := pc + 7, locals := ls, stack := .ref sa :: .ref T.heap.size :: .ref T.heap.size :: rest, locked := none }) rfl hsize rfl rfl (rest := rest) rfl
    (by rw [hb]; exact d7) (by rw [hb]; exact d10) hout hRframes (by simp only [List.map_cons, List.sum_cons, hcat]; omega) hlocks
  obtain ⟨f1, f2⟩ := vx_frame hsame
  rw [hhp] at f1 f2
  have hWs : s.WarmedH U.vm := State.WarmedH.trans hW0 hW
  have hcl : s.vm.findClass cls = some ce.cls := by
    have h9 := hO.cls
    rw [hvm] at h9
    exact h9
  have hall : s.sameButNew ({ U with vm := s.vm } : State) locs mc ms := by
    subst hA
    obtain ⟨e1, e2⟩ := hsame
    rw [State.setFrames_setFrames] at e1
    have h2 : (T.setVm s.vm).sameButNew ({ U with vm := s.vm } : State) [] (0 + 1) (0 + 6) := ⟨e1, e2⟩
    have h3 := X.same.trans h2
    rw [List.append_nil] at h3
    exact h3.mono hc hs
  refine ⟨U, ?_, .threw T.heap.size, hrun, hend, Or.inr ⟨T.heap.size, rfl, cls, ce, locs, hx U hWs.alike f1 (fun q hq => f2 q hq (fun z hz => nomatch hz)), hce, hO.vm, hcl, hWs, hall, hf⟩⟩
  refine st1 _ ?_
  show Steps p.tables e below (T1.setTop { method := m, pc := pc + 3, locals := ls, stack := .ref T.heap.size :: rest, locked := none }) _
  jvm_step X₁.here [X₁.here.top, hexec, d3', Value.category]
  exact X₁.ldcStringW hexec (own := own) (text := text) (index := is) (a := sa) hown' hstr'.1 hstr'.2
    (g := { method := m, pc := pc + 4, locals := ls, stack := .ref T.heap.size :: .ref T.heap.size :: rest, locked := none }) rfl d4' _ hsteps
end Ends
section Bodies
variable {l : Launch}
theorem vx_ofW {y : MethodName} {ws ws' : List Cond} {rm : Room} {Pc : Array Value → State → Prop} {Qc : Array Value → State → Outcome → State → Prop} {XC : String → State → State → Prop} {mc ms : Nat} {free : Addr → Prop} {cc : ByteArray} {maxL : Nat} {ret : Option FieldType}
    (hy : plainName y.cls = true) (hw : ws = Cond.code y cc maxL ret :: ws')
    (body : ∀ p e s m args below meth c s₁, BodyLoose p l y (headSpec ws rm) cc maxL ret e s m args below meth c s₁ → c.maxLocals = maxL → (∀ x ∈ c.exceptionTable.toList, False) → Pc args s →
      W p l e (headSpec ws rm).room s m args below meth c s.heap [] 0 0 (vx_MQ below Qc XC args s mc ms free) (entryFrame m args maxL)) : vx_Met l y ws rm Pc Qc XC mc ms free := by
  refine MetFree.of_bodyS (code := cc) (maxLocals := maxL) (ret := ret) hy ?_ ?_
  · intro args s m h hn
    obtain ⟨meth, c, h1, h2, h3, h4, h5, h6, -, -⟩ := Cond.code_spec hn (atoms_spec (ws := ws) h _ (by rw [hw]; exact List.mem_cons_self))
    exact ⟨meth, c, h1, h2, h3, h4, h5, h6⟩
  · intro p e s m args below meth c s₁ B hml hP _
    have hh0 : s₁.heap = s.heap := by rw [B.state]; rfl
    have ht : ∀ x ∈ c.exceptionTable.toList, False := by
      obtain ⟨meth9, c9, h1, h2, -, -, -, -, h7, -⟩ := Cond.code_spec B.named (atoms_spec (ws := ws) B.pre _ (by rw [hw]; exact List.mem_cons_self))
      cases Option.some.inj (h1.symm.trans B.method)
      cases Option.some.inj (h2.symm.trans (Stand.of_body B).code)
      intro x hx
      rw [Array.isEmpty_iff.mp h7] at hx
      cases hx
    obtain ⟨t, a1, o, b1, b2, b3⟩ := body p e s m args below meth c s₁ B hml ht hP s₁ hh0 (Stand.of_body B)
    exact ⟨t, o, a1, b1, b2, b3⟩
/-- the table of a body with handlers -/
theorem vx_table {p : Program} {x y : MethodName} {S : Spec} {cc bytes : ByteArray} {maxL maxL' : Nat} {ret ret' : Option FieldType} {e : Env} {s s₁ : State} {m : MethodId} {args : Array Value} {below : List Frame} {meth : Method} {c : Code} {hh : List (Nat × Nat × Nat × Nat)}
    (B : BodyLoose p l y S cc maxL ret e s m args below meth c s₁) (h : (Cond.codeWith y bytes maxL' ret' hh).before args s = true) : c.exceptionTable.toList = tableOf hh := by
  obtain ⟨m9, meth9, c9, hn9, h1, h2, -, -, h6, -⟩ := Cond.codeWith_spec h
  cases Option.some.inj (hn9.symm.trans B.named)
  cases Option.some.inj (h1.symm.trans B.method)
  cases Option.some.inj (h2.symm.trans (Stand.of_body B).code)
  rw [← h6, table_eq]
end Bodies
end VXA
/-! ===== END ===== -/
/-! ===== BEGIN a static call of a method with an exception table ===== -/
section VXS
variable {p : Program} {l : Launch} {e : Env} {R : Room} {s : State} {m : MethodId} {args : Array Value} {below : List Frame} {meth : Method} {c : Code} {T : State} {H : Heap} {locs : List Loc} {cells slots : Nat}
abbrev vx_CSW (R : Room) (s : State) (args : Array Value) (own : String) (index : Nat) (y : MethodName) (bytes : ByteArray) (maxL : Nat) (ret : Option FieldType) (hh : List (Nat × Nat × Nat × Nat)) (ws : List Cond) (rm : Room) (mc ms n : Nat) : Prop :=
  (rm.cells = mc ∧ rm.slots = ms ∧ rm.frames + 1 ≤ R.frames ∧ 8 + (maxL + 11) + rm.locals ≤ R.locals ∧ (∀ w ∈ ws, ∀ (a' : Array Value) (U : State), s.WarmedH U.vm → w.before a' U = true) ∧ Cond.codeWith y bytes maxL ret hh ∈ ws) ∧
  (Cond.codeWith y bytes maxL ret hh).before args s = true ∧ (Cond.initialized y.cls).before args s = true ∧ (y.cls ≠ "java/lang/invoke/MethodHandle" ∧ y.cls ≠ "java/lang/invoke/VarHandle") ∧
  (∀ sig, parseMethodDescriptor y.desc = some sig → n = sig.parameters.length) ∧ (Cond.methodLink own index y).before args s = true ∧ (Cond.static y).before args s = true
theorem vx_cwSW {own : String} {index maxL mc ms : Nat} {y : MethodName} {bytes : ByteArray} {ret : Option FieldType} {hh : List (Nat × Nat × Nat × Nat)} {Ts ws ws' : List Cond} {rm : Room} (n : Nat) (ht : ∀ w ∈ Ts, w.before args s = true) (hT : GoodIn Ts (va_wsS own index y ws)) (hw : ws = Cond.codeWith y bytes maxL ret hh :: ws') (hrc : rm.cells = mc) (hrs : rm.slots = ms)
    (hd : y.cls ≠ "java/lang/invoke/MethodHandle" ∧ y.cls ≠ "java/lang/invoke/VarHandle" ∧ (parseMethodDescriptor y.desc).map (fun d => d.parameters.length) = some n) (hR : rm.frames + 1 ≤ R.frames ∧ 8 + (maxL + 11) + rm.locals ≤ R.locals) :
    vx_CSW R s args own index y bytes maxL ret hh ws rm mc ms n := by
  have ok : ∀ w ∈ va_wsS own index y ws, w.before args s = true := fun w h => ht w (hT w h).1
  have hG : GoodIn Ts ws := fun w h => hT w (by unfold va_wsS; exact List.mem_append_right _ h)
  have hc : Cond.codeWith y bytes maxL ret hh ∈ ws := by rw [hw]; exact List.mem_cons_self
  refine ⟨⟨hrc, hrs, hR.1, hR.2, pay_in ht hG, hc⟩, ht _ (hG _ hc).1, ok _ (by simp [va_wsS]), ⟨hd.1, hd.2.1⟩, fun sig h => ?_, ok _ (by simp [va_wsS]), ok _ (by simp [va_wsS])⟩
  have h2 := hd.2.2
  rw [h] at h2
  exact (Option.some.inj h2).symm
theorem vx_callSW (X : Stand p l e R s m args below meth c T locs cells slots) (hexec : p.tables.exec = Jvm.exec) {own : String} {index : Nat} {y : MethodName} {bytes : ByteArray} {maxL : Nat} {ret : Option FieldType} {hh : List (Nat × Nat × Nat × Nat)}
    (hown : s.vm.findClass own = some m.cls) (hlink : (Cond.methodLink own index y).before args s = true) (hstat : (Cond.static y).before args s = true) (hinit : (Cond.initialized y.cls).before args s = true)
    (hcode : (Cond.codeWith y bytes maxL ret hh).before args s = true) (hy : y.cls ≠ "java/lang/invoke/MethodHandle" ∧ y.cls ≠ "java/lang/invoke/VarHandle")
    {W9 : Nat} {Pre : Pt → Array Value → Prop} {Post : Pt → Array Value → Option Value → Pt → Prop} (hK : Back l R p e below s args y 3 W9 Pre Post)
    {g : JFrame} (hg : g.method = m) (hsize : g.locals.size = c.maxLocals) {argsL rest : List Value} (hlen : ∀ sig, parseMethodDescriptor y.desc = some sig → argsL.length = sig.parameters.length)
    (hstack : g.stack = argsL.reverse ++ rest) (hW : 2 * g.monitorRoom + (rest.map fun v => v.category).sum ≤ W9) (hdg : decode c.code g.pc = .ok (.invokestatic index, 3))
    (hpre : ∀ vm₁, s.WarmedH vm₁ → Pre ⟨T.setVm vm₁, locs, cells, slots⟩ argsL.toArray) :
    ∃ (v : Option Value) (vm₁ : Vm) (B : Pt), s.WarmedH vm₁ ∧ Stand p l e R s m args below meth c B.U B.locs B.cells B.slots ∧ Post ⟨T.setVm vm₁, locs, cells, slots⟩ argsL.toArray v B ∧
      ∀ target, Steps p.tables e below (B.U.setTop { g with pc := g.pc + 3, stack := v.toList ++ rest }) target → Steps p.tables e below (T.setTop g) target := by
  obtain ⟨mk, methM, cM, hnamed, hmethM, -, -, -, -, -, -, hsigM⟩ := Cond.codeWith_spec hcode
  have hstatic : methM.isStatic = true := Cond.static_spec hnamed hmethM hstat
  obtain ⟨kP, hkP, -⟩ := className_of_methodNamed hnamed
  have hinitP : kP.init = .initialized := Cond.initialized_spec (findClass_of_methodNamed hnamed) hkP hinit
  obtain ⟨vm₁, X₁, hstep₁⟩ := X.invokestatic hexec hown hlink hnamed hmethM hstatic hkP hinitP hy (g := g) hg (argsL := argsL) (rest := rest) (hlen _ hsigM) hstack hdg
  obtain ⟨v, B, X', hpost, hsteps⟩ := hK m meth c ⟨T.setVm vm₁, locs, cells, slots⟩ { g with stack := rest } (.invokestatic index) mk argsL.toArray X₁ hg hsize hdg hW (X₁.named hnamed) (hpre vm₁ X₁.warmed)
  exact ⟨v, vm₁, B, X₁.warmed, X', hpost, fun target h => hstep₁ _ fun acts => by rw [doInvoke_state]; exact hsteps.trans h⟩
theorem vx_runSW {y : MethodName} {bytes cc : ByteArray} {maxL nL mc ms n index : Nat} {ret : Option FieldType} {hh : List (Nat × Nat × Nat × Nat)} {ws : List Cond} {rm : Room} {Pc : Array Value → State → Prop} {Qc : Array Value → State → Outcome → State → Prop} {free : Addr → Prop} {Ts : List Cond} {own : String} {As rest : List Value} {g : JFrame}
    (S : CallFix p m c cc nL s args Ts own) (hM : Met l y ws rm Pc Qc mc ms free) (cw : vx_CSW R s args own index y bytes maxL ret hh ws rm mc ms n) (hp : PreS s H Pc As)
    (hg : g.method = m) (hn : As.length = n) (hsize : g.locals.size = nL) (hstack : g.stack = As.reverse ++ rest) (hW : 2 * g.monitorRoom + (rest.map fun v => v.category).sum ≤ 8) (hdg : decode cc g.pc = .ok (.invokestatic index, 3)) (hf : cells + mc ≤ R.cells ∧ slots + ms ≤ R.slots) :
    va_Run p l e R s m args below meth c H locs cells slots mc ms g rest (Qc As.toArray) (free) := by
  obtain ⟨⟨hrc, hrs, hfr, hlo, hws, hcw⟩, hcode, hini, hy, hlen, hl, hstt⟩ := cw
  have hK : Back l R p e below s args y 3 8 (PreOf R mc ms Pc) (PostOf Qc mc ms free) := va_backW (hh := hh) (bytes := bytes) (maxL := maxL) (ret := ret) hM hp.1 hrc hrs hfr hlo hws hcw (fun a' U hW => word_at hW (Or.inl (by first | rfl | simp [Cond.onTables, Cond.keeps, Cond.steady])) hini)
  obtain ⟨hx, hb, hml, ho, -⟩ := S
  intro T hT X
  obtain ⟨v, vm₁, ⟨U', l2, c2, s2⟩, hW₁, X', ⟨g', mk, t, L, e1, e2, hq, h1, hL, h2, h3⟩, st⟩ := vx_callSW X hx (hh := hh) (bytes := bytes) (maxL := maxL) (ret := ret) ho hl hstt hini hcode hy hK hg (hsize.trans hml.symm) (argsL := As) (rest := rest) (fun sig h => hn.trans (hlen sig h)) hstack hW (by rw [hb]; exact hdg)
    (fun vm₁ hW₁ => ⟨hf.1, hf.2, hp.2 (T.setVm vm₁) hT hW₁⟩)
  dsimp only [Pt.U, Pt.locs, Pt.cells, Pt.slots] at X' e1 e2 h1 h2 h3 st
  subst h1; subst h2; subst h3
  exact ⟨v, (T.setVm vm₁).calling g' mk As.toArray, t, U', L, hT, X', hL, e1, e2, hq, st⟩
/-- a thing of a world lies in the heap -/
theorem vx_lt {D : va_G} {cl : List vw_C} {ws : va_W} {H1 : Heap} (h : va_P D cl ws H1) {k : Nat} {q : Nat × va_E} (hk : ws[k]? = some q) : q.1 < H1.size := (h k q hk).lt
end VXS
/-! ===== END ===== -/
/-! ===== BEGIN methods with a table of their own: called by a name, returning or throwing ===== -/
section VXH
/-! vx_backW, vx_callVX, vx_callSX, vx_callVW, vx_runVW, vx_runVX, vx_runSX, vx_ofWH follow the same proofs as their sisters above (Free/Laws.lean, Shelf42/LK1.lean); vx_outP calls Shelf42/NT130.lean (outThrough). -/
section
variable {l : Launch} {R : Room} {p : Program} {e : Env} {below : List Frame} {s : State} {sargs : Array Value} {y : MethodName} {len W9 : Nat}
theorem vx_backW {ws : List Cond} {rm : Room} {Pc : Array Value → State → Prop} {Qc : Array Value → State → Outcome → State → Prop} {XC : String → State → State → Prop} {mc ms : Nat} {free : Addr → Prop} {bytes : ByteArray} {maxL : Nat} {ret : Option FieldType} {hh : List (Nat × Nat × Nat × Nat)}
    (hM : vx_Met l y ws rm Pc Qc XC mc ms free) (hblind : FrameBlind Pc) (hrc : rm.cells = mc) (hrs : rm.slots = ms)
    (hframes : rm.frames + 1 ≤ R.frames) (hlocals : W9 + (maxL + 11) + rm.locals ≤ R.locals)
    (hws : ∀ w ∈ ws, ∀ a' U, s.WarmedH U.vm → w.before a' U = true) (hcode : Cond.codeWith y bytes maxL ret hh ∈ ws) (hinit : ∀ a' U, s.WarmedH U.vm → (Cond.initialized y.cls).before a' U = true) :
    vx_Back l R p e below s sargs y len W9 (PreOf R mc ms Pc) (PostOf Qc mc ms free) (vx_Post XC mc ms free) := by
  intro m meth c A g ig mk a X hg hsize hdg hW hn hp
  have h1 : (headSpec ws rm).pre.before a A.U = true := atoms_intro fun w hw => hws w hw _ _ X.warmed
  have h2 : (Cond.codeWith y bytes maxL ret hh).before a A.U = true := hws _ hcode _ _ X.warmed
  have h3 : (Cond.initialized y.cls).before a A.U = true := hinit _ _ X.warmed
  have h4 : A.cells + (headSpec ws rm).room.cells ≤ R.cells := by rw [show (headSpec ws rm).room.cells = mc from hrc]; exact hp.1
  have h5 : A.slots + (headSpec ws rm).room.slots ≤ R.slots := by rw [show (headSpec ws rm).room.slots = ms from hrs]; exact hp.2.1
  have hPc : Pc a (A.U.calling g mk a) := hblind _ _ _ _ hp.2.2
  obtain ⟨U, Ls, c0, s0⟩ := A
  dsimp only [Pt.U, Pt.locs, Pt.cells, Pt.slots] at h1 h2 h3 h4 h5 X hn hPc ⊢
  obtain ⟨m9, methY, cY, hn9, hmY, hcY, -, hlY, -⟩ := Cond.codeWith_spec h2
  cases Option.some.inj (hn9.symm.trans hn)
  obtain ⟨kY, hkY, -⟩ := className_of_methodNamed hn
  have hinitY : kY.init = .initialized := Cond.initialized_spec (findClass_of_methodNamed hn) hkY h3
  have h : At U g.method c below := by rw [hg]; exact X.here
  have hlocals9 : W9 + (maxL + 11) + (headSpec ws rm).room.locals ≤ R.locals := hlocals
  have happ : (headSpec ws rm).appliesLoose y e.platform (U.calling g mk a) = true :=
    Spec.appliesLoose_calling (g := g) h hdg hn hkY hinitY
      (X.room_calling (g := g) (R' := (headSpec ws rm).room) hsize hmY hcY hframes (by rw [hlY]; omega) h4 h5) h1
  obtain ⟨mid, hmid⟩ := h.above
  have hfr : (U.setTop g).frames = (.java g :: mid) ++ below := by rw [State.frames_setTop' g h.top, hmid]; rfl
  obtain ⟨o, s₂, hsteps, -, hend, hq⟩ := Steps.callFree hM p X.admits X.cas X.clock (acts := []) hfr happ hPc trivial
  have hq' : vx_Q Qc XC mc ms free a (U.calling g mk a) o s₂ := hq
  rw [State.frames_setTop' g h.top] at hend
  obtain ⟨g₀, hg0⟩ := Option.isSome_iff_exists.mp h.top
  obtain ⟨r, hr⟩ := State.topJava?_eq_some.mp hg0
  have hr' : (({ U with heap := s₂.heap, slotsUsed := s₂.slotsUsed } : State).setVm s₂.vm).frames = .java g₀ :: r := hr
  rcases hq' with ⟨hqc, L, hfe, hL⟩ | ⟨q, rfl, E, ce, L, hx, hce, hcv, hcl, hW₂, hsm, hL⟩
  · obtain ⟨⟨v, rfl⟩, hW₂, e2, q2, q3, q4, q5, q6⟩ := id hfe
    have e3 : s₂ = ({ (U.calling g mk a).setFrames s₂.frames with heap := s₂.heap, slotsUsed := s₂.slotsUsed } : State).setVm s₂.vm := by
      have : s₂ = ({ s₂ with vm := (U.calling g mk a).vm } : State).setVm s₂.vm := rfl
      rw [e2] at this
      exact this
    obtain ⟨c₂, i₂, len₂, hc₂, hd₂, hf₂⟩ := hend
    have hW' : U.WarmedH s₂.vm := hW₂
    have hcc : c₂ = c := by
      have h1 : s₂.code? g.method = U.code? g.method := by
        rw [State.code?_eq, State.code?_eq, hW'.alike.method?]
      exact Option.some.inj (hc₂.symm.trans (h1.trans h.code))
    subst hcc
    have hlen : len₂ = len := by rw [hdg] at hd₂; cases hd₂; rfl
    subst hlen
    have hs₂ : s₂ = (({ U with heap := s₂.heap, slotsUsed := s₂.slotsUsed } : State).setVm s₂.vm).setTop { g with pc := g.pc + len₂, stack := v.toList ++ g.stack } := by
      refine e3.trans ?_
      rw [hf₂, State.calling_eq h.top, State.setFrames_setFrames, State.setTop_of_frames _ hr', hr]
      rfl
    have hsame : U.sameButNew ({ U with heap := s₂.heap, slotsUsed := s₂.slotsUsed } : State) L mc ms := by
      refine ⟨?_, q2, q3, q4, q5, q6⟩
      obtain ⟨t, ht, -⟩ := State.frames_cons hr
      show ({ U with heap := s₂.heap, slotsUsed := s₂.slotsUsed } : State) = { U.setFrames U.frames with heap := s₂.heap, slotsUsed := s₂.slotsUsed }
      rw [State.setFrames_self ht]
    subst hg
    refine Or.inl ⟨v, ⟨(({ U with heap := s₂.heap, slotsUsed := s₂.slotsUsed } : State).setVm s₂.vm), Ls ++ L, c0 + mc, s0 + ms⟩,
      ⟨X.admits, X.cas, X.clock, X.frames, X.room, X.hears, X.method, X.code, (X.here.setHeapUsed s₂.heap s₂.slotsUsed).setVm hW'.alike, X.tail, State.WarmedH.trans X.warmed hW', X.limits, X.bytes, X.same.trans (hsame.setVm s.vm)⟩,
      ⟨g, mk, s₂, L, rfl, rfl, hqc, rfl, hL, rfl, rfl⟩, ?_⟩
    show Steps p.tables e below _ ((({ U with heap := s₂.heap, slotsUsed := s₂.slotsUsed } : State).setVm s₂.vm).setTop { g with pc := g.pc + len₂, stack := v.toList ++ g.stack })
    rw [← hs₂]
    exact hsteps
  · obtain ⟨e2, q2, q3, q4, q5, q6⟩ := id hsm
    have e3 : s₂ = ({ (U.calling g mk a).setFrames s₂.frames with heap := s₂.heap, slotsUsed := s₂.slotsUsed } : State).setVm s₂.vm := by
      have : s₂ = ({ s₂ with vm := (U.calling g mk a).vm } : State).setVm s₂.vm := rfl
      rw [e2] at this
      exact this
    have hf₂ : s₂.frames = .throwing q :: .java g :: U.frames.tail := hend
    have hW' : U.WarmedH s₂.vm := hW₂
    have hs₂ : s₂ = ((({ U with heap := s₂.heap, slotsUsed := s₂.slotsUsed } : State).setVm s₂.vm).setTop g).pushFrame (.throwing q) := by
      refine e3.trans ?_
      rw [hf₂, State.calling_eq h.top, State.setFrames_setFrames, State.pushFrame, State.frames_setTop _ hr', State.setTop_of_frames _ hr', State.setFrames_setFrames, hr]
      rfl
    have hsame : U.sameButNew ({ U with heap := s₂.heap, slotsUsed := s₂.slotsUsed } : State) L mc ms := by
      refine ⟨?_, q2, q3, q4, q5, q6⟩
      obtain ⟨t, ht, -⟩ := State.frames_cons hr
      show ({ U with heap := s₂.heap, slotsUsed := s₂.slotsUsed } : State) = { U.setFrames U.frames with heap := s₂.heap, slotsUsed := s₂.slotsUsed }
      rw [State.setFrames_self ht]
    subst hg
    refine Or.inr ⟨q, ⟨(({ U with heap := s₂.heap, slotsUsed := s₂.slotsUsed } : State).setVm s₂.vm), Ls ++ L, c0 + mc, s0 + ms⟩,
      ⟨X.admits, X.cas, X.clock, X.frames, X.room, X.hears, X.method, X.code, (X.here.setHeapUsed s₂.heap s₂.slotsUsed).setVm hW'.alike, X.tail, State.WarmedH.trans X.warmed hW', X.limits, X.bytes, X.same.trans (hsame.setVm s.vm)⟩,
      ⟨g, mk, s₂, L, E, ce, rfl, rfl, hx, hce, hcv, hcl, rfl, hL, rfl, rfl⟩, ?_⟩
    show Steps p.tables e below _ (((({ U with heap := s₂.heap, slotsUsed := s₂.slotsUsed } : State).setVm s₂.vm).setTop g).pushFrame (.throwing q))
    rw [← hs₂]
    exact hsteps
end
variable {p : Program} {l : Launch} {e : Env} {R : Room} {s : State} {m : MethodId} {args : Array Value} {below : List Frame} {meth : Method} {c : Code} {T : State} {H : Heap} {locs : List Loc} {cells slots : Nat}
theorem vx_callVX (X : Stand p l e R s m args below meth c T locs cells slots) (hexec : p.tables.exec = Jvm.exec) {own C : String} {index : Nat} {y : MethodName} {bytes : ByteArray} {maxL : Nat} {ret : Option FieldType} {hh : List (Nat × Nat × Nat × Nat)}
    (hown : s.vm.findClass own = some m.cls) (hlink : (Cond.methodLink own index y).before args s = true) (hinst : (Cond.instanceMethod y).before args s = true) (hsel : (Cond.selects C y y).before args s = true)
    (hcode : (Cond.codeWith y bytes maxL ret hh).before args s = true) (hy : y.cls ≠ "java/lang/invoke/MethodHandle" ∧ y.cls ≠ "java/lang/invoke/VarHandle")
    {W9 : Nat} {Pre : Pt → Array Value → Prop} {Post : Pt → Array Value → Option Value → Pt → Prop} {PostX : Pt → Array Value → Addr → Pt → Prop} (hK : vx_Back l R p e below s args y 3 W9 Pre Post PostX)
    {b : Addr} {cellB : Cell} (hcell : T.heap[b]? = some cellB) (hobj : cellB.vm.isStatics = false) (hcls : s.vm.findClass C = some cellB.cls)
    {g : JFrame} (hg : g.method = m) (hsize : g.locals.size = c.maxLocals) {argsL rest : List Value} (hlen : ∀ sig, parseMethodDescriptor y.desc = some sig → argsL.length = sig.parameters.length)
    (hstack : g.stack = argsL.reverse ++ .ref b :: rest) (hW : 2 * g.monitorRoom + (rest.map fun v => v.category).sum ≤ W9) (hdg : decode c.code g.pc = .ok (.invokevirtual index, 3))
    (hpre : ∀ vm₁, s.WarmedH vm₁ → Pre ⟨T.setVm vm₁, locs, cells, slots⟩ (Value.ref b :: argsL).toArray) :
    (∃ (v : Option Value) (vm₁ : Vm) (B : Pt), s.WarmedH vm₁ ∧ Stand p l e R s m args below meth c B.U B.locs B.cells B.slots ∧ Post ⟨T.setVm vm₁, locs, cells, slots⟩ (Value.ref b :: argsL).toArray v B ∧
      ∀ target, Steps p.tables e below (B.U.setTop { g with pc := g.pc + 3, stack := v.toList ++ rest }) target → Steps p.tables e below (T.setTop g) target) ∨
    (∃ (q : Addr) (vm₁ : Vm) (B : Pt), s.WarmedH vm₁ ∧ Stand p l e R s m args below meth c B.U B.locs B.cells B.slots ∧ PostX ⟨T.setVm vm₁, locs, cells, slots⟩ (Value.ref b :: argsL).toArray q B ∧
      Steps p.tables e below (T.setTop g) ((B.U.setTop { g with stack := rest }).pushFrame (.throwing q))) := by
  obtain ⟨mk, methM, hnamed, hmethM, hstM, habM⟩ := Cond.instanceMethod_spec hinst
  obtain ⟨m8, methM', cM, hn8, hmethM', -, -, -, -, -, -, hsigM⟩ := Cond.codeWith_spec hcode
  cases Option.some.inj (hn8.symm.trans hnamed)
  cases hmethM.symm.trans hmethM'
  obtain ⟨c2, r2, m2, q1, q2, q3, q4, kP, hkP, hkPi⟩ := Cond.selects_spec hsel
  cases hcls.symm.trans q1
  cases (State.methodFound?_of_named hnamed hy).symm.trans q2
  cases hnamed.symm.trans q3
  have hselP : selectMethod e.platform s.vm cellB.cls mk = .method mk := by rw [Launch.admits_selectMethod X.admits]; exact q4
  obtain ⟨vm₁, X₁, hstep₁⟩ := X.invokevirtual hexec hown hlink hnamed hmethM hstM hkP hkPi hy (a := b) (cell := cellB) hcell
    (fun z h => by rw [h] at hobj; cases hobj) hselP hmethM habM hkP hkPi (g := g) hg (argsL := argsL) (rest := rest) (hlen _ hsigM) hstack hdg
  rcases hK m meth c ⟨T.setVm vm₁, locs, cells, slots⟩ { g with stack := rest } (.invokevirtual index) mk (Value.ref b :: argsL).toArray X₁ hg hsize hdg hW (X₁.named hnamed) (hpre vm₁ X₁.warmed) with ⟨v, B, X', hpost, hsteps⟩ | ⟨q, B, X', hpost, hsteps⟩
  · exact Or.inl ⟨v, vm₁, B, X₁.warmed, X', hpost, fun target h => hstep₁ _ fun acts => by rw [doInvoke_state]; exact hsteps.trans h⟩
  · exact Or.inr ⟨q, vm₁, B, X₁.warmed, X', hpost, hstep₁ _ fun acts => by rw [doInvoke_state]; exact hsteps⟩
theorem vx_callSX (X : Stand p l e R s m args below meth c T locs cells slots) (hexec : p.tables.exec = Jvm.exec) {own : String} {index : Nat} {y : MethodName} {bytes : ByteArray} {maxL : Nat} {ret : Option FieldType} {hh : List (Nat × Nat × Nat × Nat)}
    (hown : s.vm.findClass own = some m.cls) (hlink : (Cond.methodLink own index y).before args s = true) (hstat : (Cond.static y).before args s = true) (hinit : (Cond.initialized y.cls).before args s = true)
    (hcode : (Cond.codeWith y bytes maxL ret hh).before args s = true) (hy : y.cls ≠ "java/lang/invoke/MethodHandle" ∧ y.cls ≠ "java/lang/invoke/VarHandle")
    {W9 : Nat} {Pre : Pt → Array Value → Prop} {Post : Pt → Array Value → Option Value → Pt → Prop} {PostX : Pt → Array Value → Addr → Pt → Prop} (hK : vx_Back l R p e below s args y 3 W9 Pre Post PostX)
    {g : JFrame} (hg : g.method = m) (hsize : g.locals.size = c.maxLocals) {argsL rest : List Value} (hlen : ∀ sig, parseMethodDescriptor y.desc = some sig → argsL.length = sig.parameters.length)
    (hstack : g.stack = argsL.reverse ++ rest) (hW : 2 * g.monitorRoom + (rest.map fun v => v.category).sum ≤ W9) (hdg : decode c.code g.pc = .ok (.invokestatic index, 3))
    (hpre : ∀ vm₁, s.WarmedH vm₁ → Pre ⟨T.setVm vm₁, locs, cells, slots⟩ argsL.toArray) :
    (∃ (v : Option Value) (vm₁ : Vm) (B : Pt), s.WarmedH vm₁ ∧ Stand p l e R s m args below meth c B.U B.locs B.cells B.slots ∧ Post ⟨T.setVm vm₁, locs, cells, slots⟩ argsL.toArray v B ∧
      ∀ target, Steps p.tables e below (B.U.setTop { g with pc := g.pc + 3, stack := v.toList ++ rest }) target → Steps p.tables e below (T.setTop g) target) ∨
    (∃ (q : Addr) (vm₁ : Vm) (B : Pt), s.WarmedH vm₁ ∧ Stand p l e R s m args below meth c B.U B.locs B.cells B.slots ∧ PostX ⟨T.setVm vm₁, locs, cells, slots⟩ argsL.toArray q B ∧
      Steps p.tables e below (T.setTop g) ((B.U.setTop { g with stack := rest }).pushFrame (.throwing q))) := by
  obtain ⟨mk, methM, cM, hnamed, hmethM, -, -, -, -, -, -, hsigM⟩ := Cond.codeWith_spec hcode
  have hstatic : methM.isStatic = true := Cond.static_spec hnamed hmethM hstat
  obtain ⟨kP, hkP, -⟩ := className_of_methodNamed hnamed
  have hinitP : kP.init = .initialized := Cond.initialized_spec (findClass_of_methodNamed hnamed) hkP hinit
  obtain ⟨vm₁, X₁, hstep₁⟩ := X.invokestatic hexec hown hlink hnamed hmethM hstatic hkP hinitP hy (g := g) hg (argsL := argsL) (rest := rest) (hlen _ hsigM) hstack hdg
  rcases hK m meth c ⟨T.setVm vm₁, locs, cells, slots⟩ { g with stack := rest } (.invokestatic index) mk argsL.toArray X₁ hg hsize hdg hW (X₁.named hnamed) (hpre vm₁ X₁.warmed) with ⟨v, B, X', hpost, hsteps⟩ | ⟨q, B, X', hpost, hsteps⟩
  · exact Or.inl ⟨v, vm₁, B, X₁.warmed, X', hpost, fun target h => hstep₁ _ fun acts => by rw [doInvoke_state]; exact hsteps.trans h⟩
  · exact Or.inr ⟨q, vm₁, B, X₁.warmed, X', hpost, hstep₁ _ fun acts => by rw [doInvoke_state]; exact hsteps⟩
theorem vx_callVW (X : Stand p l e R s m args below meth c T locs cells slots) (hexec : p.tables.exec = Jvm.exec) {own C : String} {index : Nat} {y : MethodName} {bytes : ByteArray} {maxL : Nat} {ret : Option FieldType} {hh : List (Nat × Nat × Nat × Nat)}
    (hown : s.vm.findClass own = some m.cls) (hlink : (Cond.methodLink own index y).before args s = true) (hinst : (Cond.instanceMethod y).before args s = true) (hsel : (Cond.selects C y y).before args s = true)
    (hcode : (Cond.codeWith y bytes maxL ret hh).before args s = true) (hy : y.cls ≠ "java/lang/invoke/MethodHandle" ∧ y.cls ≠ "java/lang/invoke/VarHandle")
    {W9 : Nat} {Pre : Pt → Array Value → Prop} {Post : Pt → Array Value → Option Value → Pt → Prop} (hK : Back l R p e below s args y 3 W9 Pre Post)
    {b : Addr} {cellB : Cell} (hcell : T.heap[b]? = some cellB) (hobj : cellB.vm.isStatics = false) (hcls : s.vm.findClass C = some cellB.cls)
    {g : JFrame} (hg : g.method = m) (hsize : g.locals.size = c.maxLocals) {argsL rest : List Value} (hlen : ∀ sig, parseMethodDescriptor y.desc = some sig → argsL.length = sig.parameters.length)
    (hstack : g.stack = argsL.reverse ++ .ref b :: rest) (hW : 2 * g.monitorRoom + (rest.map fun v => v.category).sum ≤ W9) (hdg : decode c.code g.pc = .ok (.invokevirtual index, 3))
    (hpre : ∀ vm₁, s.WarmedH vm₁ → Pre ⟨T.setVm vm₁, locs, cells, slots⟩ (Value.ref b :: argsL).toArray) :
    ∃ (v : Option Value) (vm₁ : Vm) (B : Pt), s.WarmedH vm₁ ∧ Stand p l e R s m args below meth c B.U B.locs B.cells B.slots ∧ Post ⟨T.setVm vm₁, locs, cells, slots⟩ (Value.ref b :: argsL).toArray v B ∧
      ∀ target, Steps p.tables e below (B.U.setTop { g with pc := g.pc + 3, stack := v.toList ++ rest }) target → Steps p.tables e below (T.setTop g) target := by
  obtain ⟨mk, methM, hnamed, hmethM, hstM, habM⟩ := Cond.instanceMethod_spec hinst
  obtain ⟨m8, methM', cM, hn8, hmethM', -, -, -, -, -, -, hsigM⟩ := Cond.codeWith_spec hcode
  cases Option.some.inj (hn8.symm.trans hnamed)
  cases hmethM.symm.trans hmethM'
  obtain ⟨c2, r2, m2, q1, q2, q3, q4, kP, hkP, hkPi⟩ := Cond.selects_spec hsel
  cases hcls.symm.trans q1
  cases (State.methodFound?_of_named hnamed hy).symm.trans q2
  cases hnamed.symm.trans q3
  have hselP : selectMethod e.platform s.vm cellB.cls mk = .method mk := by rw [Launch.admits_selectMethod X.admits]; exact q4
  obtain ⟨vm₁, X₁, hstep₁⟩ := X.invokevirtual hexec hown hlink hnamed hmethM hstM hkP hkPi hy (a := b) (cell := cellB) hcell
    (fun z h => by rw [h] at hobj; cases hobj) hselP hmethM habM hkP hkPi (g := g) hg (argsL := argsL) (rest := rest) (hlen _ hsigM) hstack hdg
  obtain ⟨v, B, X', hpost, hsteps⟩ := hK m meth c ⟨T.setVm vm₁, locs, cells, slots⟩ { g with stack := rest } (.invokevirtual index) mk (Value.ref b :: argsL).toArray X₁ hg hsize hdg hW (X₁.named hnamed) (hpre vm₁ X₁.warmed)
  exact ⟨v, vm₁, B, X₁.warmed, X', hpost, fun target h => hstep₁ _ fun acts => by rw [doInvoke_state]; exact hsteps.trans h⟩
abbrev vx_CVW (R : Room) (s : State) (args : Array Value) (own C : String) (index : Nat) (y : MethodName) (bytes : ByteArray) (maxL : Nat) (ret : Option FieldType) (hh : List (Nat × Nat × Nat × Nat)) (ws : List Cond) (rm : Room) (mc ms n : Nat) : Prop :=
  (rm.cells = mc ∧ rm.slots = ms ∧ rm.frames + 1 ≤ R.frames ∧ 8 + (maxL + 11) + rm.locals ≤ R.locals ∧ (∀ w ∈ ws, ∀ (a' : Array Value) (U : State), s.WarmedH U.vm → w.before a' U = true) ∧ Cond.codeWith y bytes maxL ret hh ∈ ws) ∧
  (Cond.codeWith y bytes maxL ret hh).before args s = true ∧ (Cond.initialized y.cls).before args s = true ∧ (y.cls ≠ "java/lang/invoke/MethodHandle" ∧ y.cls ≠ "java/lang/invoke/VarHandle") ∧
  (∀ sig, parseMethodDescriptor y.desc = some sig → n = sig.parameters.length) ∧ (Cond.methodLink own index y).before args s = true ∧ (Cond.instanceMethod y).before args s = true ∧ (Cond.selects C y y).before args s = true
theorem vx_cwVW {own C : String} {index maxL mc ms : Nat} {y : MethodName} {bytes : ByteArray} {ret : Option FieldType} {hh : List (Nat × Nat × Nat × Nat)} {Ts ws ws' : List Cond} {rm : Room} (n : Nat) (ht : ∀ w ∈ Ts, w.before args s = true) (hT : GoodIn Ts (wsV own index C y ws)) (hw : ws = Cond.codeWith y bytes maxL ret hh :: ws') (hrc : rm.cells = mc) (hrs : rm.slots = ms)
    (hd : y.cls = C ∧ y.cls ≠ "java/lang/invoke/MethodHandle" ∧ y.cls ≠ "java/lang/invoke/VarHandle" ∧ (parseMethodDescriptor y.desc).map (fun d => d.parameters.length) = some n) (hR : rm.frames + 1 ≤ R.frames ∧ 8 + (maxL + 11) + rm.locals ≤ R.locals) :
    vx_CVW R s args own C index y bytes maxL ret hh ws rm mc ms n := by
  obtain ⟨hC, hd⟩ := hd
  subst hC
  have ok : ∀ w ∈ wsV own index y.cls y ws, w.before args s = true := fun w h => ht w (hT w h).1
  have hG : GoodIn Ts ws := fun w h => hT w (by unfold wsV; exact List.mem_append_right _ h)
  have hc : Cond.codeWith y bytes maxL ret hh ∈ ws := by rw [hw]; exact List.mem_cons_self
  refine ⟨⟨hrc, hrs, hR.1, hR.2, pay_in ht hG, hc⟩, ht _ (hG _ hc).1, ok _ (by simp [wsV]), ⟨hd.1, hd.2.1⟩, fun sig h => ?_, ok _ (by simp [wsV]), ok _ (by simp [wsV]), ok _ (by simp [wsV])⟩
  have h2 := hd.2.2
  rw [h] at h2
  exact (Option.some.inj h2).symm
theorem vx_runVW {y : MethodName} {bytes cc : ByteArray} {maxL nL mc ms n index : Nat} {ret : Option FieldType} {hh : List (Nat × Nat × Nat × Nat)} {ws : List Cond} {rm : Room} {Pc : Array Value → State → Prop} {Qc : Array Value → State → Outcome → State → Prop} {free : Addr → Prop} {Ts : List Cond} {own C : String} {b : Addr} {As rest : List Value} {g : JFrame}
    (S : CallFix p m c cc nL s args Ts own) (hM : Met l y ws rm Pc Qc mc ms free) (cw : vx_CVW R s args own C index y bytes maxL ret hh ws rm mc ms n) (hp : PreV s H C b Pc As)
    (hg : g.method = m) (hn : As.length = n) (hsize : g.locals.size = nL) (hstack : g.stack = As.reverse ++ .ref b :: rest) (hW : 2 * g.monitorRoom + (rest.map fun v => v.category).sum ≤ 8) (hdg : decode cc g.pc = .ok (.invokevirtual index, 3)) (hf : cells + mc ≤ R.cells ∧ slots + ms ≤ R.slots) :
    va_Run p l e R s m args below meth c H locs cells slots mc ms g rest (Qc (Value.ref b :: As).toArray) free := by
  obtain ⟨⟨hrc, hrs, hfr, hlo, hws, hcw⟩, hcode, hini, hy, hlen, hl, hin, hse⟩ := cw
  have hK : Back l R p e below s args y 3 8 (PreOf R mc ms Pc) (PostOf Qc mc ms free) := va_backW (hh := hh) (bytes := bytes) (maxL := maxL) (ret := ret) hM hp.1 hrc hrs hfr hlo hws hcw (fun a' U hW => word_at hW (Or.inl (by first | rfl | simp [Cond.onTables, Cond.keeps, Cond.steady])) hini)
  obtain ⟨hx, hb, hml, ho, -⟩ := S
  obtain ⟨-, ⟨cellB, hcB, hoB, hclB⟩, hPc⟩ := hp
  intro T hT X
  obtain ⟨v, vm₁, ⟨U', l2, c2, s2⟩, hW₁, X', ⟨g', mk, t, L, e1, e2, hq, h1, hL, h2, h3⟩, st⟩ := vx_callVW X hx (C := C) (hh := hh) (bytes := bytes) (maxL := maxL) (ret := ret) ho hl hin hse hcode hy hK (by rw [hT]; exact hcB) hoB hclB hg (hsize.trans hml.symm) (argsL := As) (rest := rest) (fun sig h => hn.trans (hlen sig h)) hstack hW (by rw [hb]; exact hdg)
    (fun vm₁ hW₁ => ⟨hf.1, hf.2, hPc (T.setVm vm₁) hT hW₁⟩)
  dsimp only [Pt.U, Pt.locs, Pt.cells, Pt.slots] at X' e1 e2 h1 h2 h3 st
  subst h1; subst h2; subst h3
  exact ⟨v, (T.setVm vm₁).calling g' mk (Value.ref b :: As).toArray, t, U', L, hT, X', hL, e1, e2, hq, st⟩
section
variable {y : MethodName} {bytes cc : ByteArray} {maxL nL mc ms n index : Nat} {ret : Option FieldType} {ws : List Cond} {rm : Room} {Pc : Array Value → State → Prop} {Qc : Array Value → State → Outcome → State → Prop} {XC : String → State → State → Prop} {free : Addr → Prop} {Ts : List Cond} {own C : String} {b : Addr} {As rest : List Value} {g : JFrame}
theorem vx_runVX {hh : List (Nat × Nat × Nat × Nat)} (S : CallFix p m c cc nL s args Ts own) (hM : vx_Met l y ws rm Pc Qc XC mc ms free) (cw : vx_CVW R s args own C index y bytes maxL ret hh ws rm mc ms n) (hp : PreV s H C b Pc As)
    (hg : g.method = m) (hn : As.length = n) (hsize : g.locals.size = nL) (hstack : g.stack = As.reverse ++ .ref b :: rest) (hW : 2 * g.monitorRoom + (rest.map fun v => v.category).sum ≤ 8) (hdg : decode cc g.pc = .ok (.invokevirtual index, 3)) (hf : cells + mc ≤ R.cells ∧ slots + ms ≤ R.slots) :
    vx_Run p l e R s m args below meth c H locs cells slots mc ms g rest (Qc (Value.ref b :: As).toArray) XC free := by
  obtain ⟨⟨hrc, hrs, hfr, hlo, hws, hcw⟩, hcode, hini, hy, hlen, hl, hin, hse⟩ := cw
  have hK : vx_Back l R p e below s args y 3 8 (PreOf R mc ms Pc) (PostOf Qc mc ms free) (vx_Post XC mc ms free) := vx_backW (hh := hh) (bytes := bytes) (maxL := maxL) (ret := ret) hM hp.1 hrc hrs hfr hlo hws hcw (fun a' U hW => word_at hW (Or.inl (by first | rfl | simp [Cond.onTables, Cond.keeps, Cond.steady])) hini)
  obtain ⟨hx, hb, hml, ho, -⟩ := S
  obtain ⟨-, ⟨cellB, hcB, hoB, hclB⟩, hPc⟩ := hp
  intro T hT X
  rcases vx_callVX X hx (C := C) (hh := hh) (bytes := bytes) (maxL := maxL) (ret := ret) ho hl hin hse hcode hy hK (by rw [hT]; exact hcB) hoB hclB hg (hsize.trans hml.symm) (argsL := As) (rest := rest) (fun sig h => hn.trans (hlen sig h)) hstack hW (by rw [hb]; exact hdg)
    (fun vm₁ hW₁ => ⟨hf.1, hf.2, hPc (T.setVm vm₁) hT hW₁⟩) with ⟨v, vm₁, ⟨U', l2, c2, s2⟩, hW₁, X', ⟨g', mk, t, L, e1, e2, hq, h1, hL, h2, h3⟩, st⟩ | ⟨q, vm₁, ⟨U', l2, c2, s2⟩, hW₁, X', ⟨g', mk, t, L, E, ce, e1, e2, hq, hce, hcv, hcl, h1, hL, h2, h3⟩, st⟩
  · dsimp only [Pt.U, Pt.locs, Pt.cells, Pt.slots] at X' e1 e2 h1 h2 h3 st
    subst h1; subst h2; subst h3
    exact Or.inl ⟨v, (T.setVm vm₁).calling g' mk (Value.ref b :: As).toArray, t, U', L, hT, X', hL, e1, e2, hq, st⟩
  · dsimp only [Pt.U, Pt.locs, Pt.cells, Pt.slots] at X' e1 e2 h1 h2 h3 st hcl
    subst h1; subst h2; subst h3
    exact Or.inr ⟨q, (T.setVm vm₁).calling g' mk (Value.ref b :: As).toArray, t, U', L, E, ce, hT, X', hL, e1, e2, hq, hce, hcv, vx_cls hW₁ hcl, st⟩
theorem vx_runSX {hh : List (Nat × Nat × Nat × Nat)} (S : CallFix p m c cc nL s args Ts own) (hM : vx_Met l y ws rm Pc Qc XC mc ms free) (cw : vx_CSW R s args own index y bytes maxL ret hh ws rm mc ms n) (hp : PreS s H Pc As)
    (hg : g.method = m) (hn : As.length = n) (hsize : g.locals.size = nL) (hstack : g.stack = As.reverse ++ rest) (hW : 2 * g.monitorRoom + (rest.map fun v => v.category).sum ≤ 8) (hdg : decode cc g.pc = .ok (.invokestatic index, 3)) (hf : cells + mc ≤ R.cells ∧ slots + ms ≤ R.slots) :
    vx_Run p l e R s m args below meth c H locs cells slots mc ms g rest (Qc As.toArray) XC free := by
  obtain ⟨⟨hrc, hrs, hfr, hlo, hws, hcw⟩, hcode, hini, hy, hlen, hl, hstt⟩ := cw
  have hK : vx_Back l R p e below s args y 3 8 (PreOf R mc ms Pc) (PostOf Qc mc ms free) (vx_Post XC mc ms free) := vx_backW (hh := hh) (bytes := bytes) (maxL := maxL) (ret := ret) hM hp.1 hrc hrs hfr hlo hws hcw (fun a' U hW => word_at hW (Or.inl (by first | rfl | simp [Cond.onTables, Cond.keeps, Cond.steady])) hini)
  obtain ⟨hx, hb, hml, ho, -⟩ := S
  intro T hT X
  rcases vx_callSX X hx (hh := hh) (bytes := bytes) (maxL := maxL) (ret := ret) ho hl hstt hini hcode hy hK hg (hsize.trans hml.symm) (argsL := As) (rest := rest) (fun sig h => hn.trans (hlen sig h)) hstack hW (by rw [hb]; exact hdg)
    (fun vm₁ hW₁ => ⟨hf.1, hf.2, hp.2 (T.setVm vm₁) hT hW₁⟩) with ⟨v, vm₁, ⟨U', l2, c2, s2⟩, hW₁, X', ⟨g', mk, t, L, e1, e2, hq, h1, hL, h2, h3⟩, st⟩ | ⟨q, vm₁, ⟨U', l2, c2, s2⟩, hW₁, X', ⟨g', mk, t, L, E, ce, e1, e2, hq, hce, hcv, hcl, h1, hL, h2, h3⟩, st⟩
  · dsimp only [Pt.U, Pt.locs, Pt.cells, Pt.slots] at X' e1 e2 h1 h2 h3 st
    subst h1; subst h2; subst h3
    exact Or.inl ⟨v, (T.setVm vm₁).calling g' mk As.toArray, t, U', L, hT, X', hL, e1, e2, hq, st⟩
  · dsimp only [Pt.U, Pt.locs, Pt.cells, Pt.slots] at X' e1 e2 h1 h2 h3 st hcl
    subst h1; subst h2; subst h3
    exact Or.inr ⟨q, (T.setVm vm₁).calling g' mk As.toArray, t, U', L, E, ce, hT, X', hL, e1, e2, hq, hce, hcv, vx_cls hW₁ hcl, st⟩
end
end VXH
theorem vx_ofWH {l : Launch} {y : MethodName} {ws ws' : List Cond} {rm : Room} {Pc : Array Value → State → Prop} {Qc : Array Value → State → Outcome → State → Prop} {XC : String → State → State → Prop} {mc ms : Nat} {free : Addr → Prop} {cc : ByteArray} {maxL : Nat} {ret : Option FieldType} {hh : List (Nat × Nat × Nat × Nat)}
    (hy : plainName y.cls = true) (hw : ws = Cond.codeWith y cc maxL ret hh :: ws')
    (body : ∀ p e s m args below meth c s₁, BodyLoose p l y (headSpec ws rm) cc maxL ret e s m args below meth c s₁ → c.maxLocals = maxL → Pc args s →
      W p l e (headSpec ws rm).room s m args below meth c s.heap [] 0 0 (vx_MQ below Qc XC args s mc ms free) (entryFrame m args maxL)) : vx_Met l y ws rm Pc Qc XC mc ms free := by
  refine MetFree.of_bodyS (code := cc) (maxLocals := maxL) (ret := ret) hy ?_ ?_
  · intro args s m h hn
    obtain ⟨m9, meth, c, hn9, h1, h2, h3, h4, -, h5, h6, -⟩ := Cond.codeWith_spec (atoms_spec (ws := ws) h _ (by rw [hw]; exact List.mem_cons_self))
    cases hn.symm.trans hn9
    exact ⟨meth, c, h1, h2, h3, h4, h5, h6⟩
  · intro p e s m args below meth c s₁ B hml hP _
    have hh0 : s₁.heap = s.heap := by rw [B.state]; rfl
    obtain ⟨t, a1, o, b1, b2, b3⟩ := body p e s m args below meth c s₁ B hml hP s₁ hh0 (Stand.of_body B)
    exact ⟨t, o, a1, b1, b2, b3⟩
/-! ===== END ===== -/
end
section
/-! ===== BEGIN printed: names, fields, word lists, decode rows ===== -/
def RX0 : String := "StockLog$Cells"
def TX0 : u_T := fun k => match k with
  | _ => ("StockLog$Cells", "cells", "[I", true)
def tyX0 : Nat → FieldType := fun k => match k with
  | _ => .array .int
abbrev wsX00 : List Cond := u_ws RX0 TX0 1
theorem nmX0 : ∀ a, a < 1 → ∀ b, b < 1 → a ≠ b → (TX0 a).2.1 ≠ (TX0 b).2.1 := by decide +kernel
theorem tyX0_ok : ∀ k, k < 1 → parseFieldDescriptor (TX0 k).2.2.1 = some (tyX0 k) := by decide +kernel
abbrev cX0_init : ByteArray := prog_2_method_1_code
def yX0_init : MethodName := ⟨RX0, "<init>", "(I)V"⟩
abbrev cX0_length : ByteArray := prog_2_method_2_code
def yX0_length : MethodName := ⟨RX0, "length", "()I"⟩
abbrev cX0_at : ByteArray := prog_2_method_3_code
def yX0_at : MethodName := ⟨RX0, "at", "(I)I"⟩
abbrev cX0_set : ByteArray := prog_2_method_4_code
def yX0_set : MethodName := ⟨RX0, "set", "(II)V"⟩
abbrev cX0_copy : ByteArray := prog_2_method_5_code
def yX0_copy : MethodName := ⟨RX0, "copy", "(LStockLog$Cells;II)V"⟩
abbrev cX0_isZeroFrom : ByteArray := prog_2_method_6_code
def yX0_isZeroFrom : MethodName := ⟨RX0, "isZeroFrom", "(I)Z"⟩
abbrev cX0_numberAt : ByteArray := prog_2_method_7_code
def yX0_numberAt : MethodName := ⟨RX0, "numberAt", "(II)I"⟩
abbrev cX0_setNumber : ByteArray := prog_2_method_8_code
def yX0_setNumber : MethodName := ⟨RX0, "setNumber", "(III)V"⟩
def RX1 : String := "StockLog$Rows"
def TX1 : u_T := fun k => match k with
  | 0 => ("StockLog$Rows", "image", "LStockLog$Cells;", true)
  | 1 => ("StockLog$Rows", "starts", "LStockLog$Cells;", true)
  | 2 => ("StockLog$Rows", "ofKind", "LStockLog$Cells;", true)
  | 3 => ("StockLog$Rows", "state", "LStockLog$Cells;", true)
  | 4 => ("StockLog$Rows", "last", "I", false)
  | 5 => ("StockLog$Rows", "used", "I", false)
  | 6 => ("StockLog$Rows", "lastOnDisk", "I", false)
  | _ => ("StockLog$Rows", "usedOnDisk", "I", false)
def tyX1 : Nat → FieldType := fun k => match k with
  | 0 => .object "StockLog$Cells"
  | 1 => .object "StockLog$Cells"
  | 2 => .object "StockLog$Cells"
  | 3 => .object "StockLog$Cells"
  | 4 => .int
  | 5 => .int
  | 6 => .int
  | _ => .int
abbrev wsX10 : List Cond := u_ws RX1 TX1 8
theorem nmX1 : ∀ a, a < 8 → ∀ b, b < 8 → a ≠ b → (TX1 a).2.1 ≠ (TX1 b).2.1 := by decide +kernel
theorem tyX1_ok : ∀ k, k < 8 → parseFieldDescriptor (TX1 k).2.2.1 = some (tyX1 k) := by decide +kernel
abbrev cX1_init : ByteArray := prog_3_method_1_code
def yX1_init : MethodName := ⟨RX1, "<init>", "(I)V"⟩
abbrev cX1_has : ByteArray := prog_3_method_2_code
def yX1_has : MethodName := ⟨RX1, "has", "(I)Z"⟩
abbrev cX1_kindOf : ByteArray := prog_3_method_3_code
def yX1_kindOf : MethodName := ⟨RX1, "kindOf", "(I)I"⟩
abbrev cX1_lengthOf : ByteArray := prog_3_method_4_code
def yX1_lengthOf : MethodName := ⟨RX1, "lengthOf", "(I)I"⟩
abbrev cX1_byteAt : ByteArray := prog_3_method_5_code
def yX1_byteAt : MethodName := ⟨RX1, "byteAt", "(II)I"⟩
abbrev cX1_sumOfBytes : ByteArray := prog_3_method_6_code
def yX1_sumOfBytes : MethodName := ⟨RX1, "sumOfBytes", "(I)I"⟩
abbrev cX1_numberOf : ByteArray := prog_3_method_7_code
def yX1_numberOf : MethodName := ⟨RX1, "numberOf", "(II)I"⟩
abbrev cX1_bytesInMemory : ByteArray := prog_3_method_8_code
def yX1_bytesInMemory : MethodName := ⟨RX1, "bytesInMemory", "()I"⟩
abbrev cX1_write : ByteArray := prog_3_method_9_code
def yX1_write : MethodName := ⟨RX1, "write", "(ILStockLog$Cells;I)I"⟩
abbrev cX1_writeState : ByteArray := prog_3_method_10_code
def yX1_writeState : MethodName := ⟨RX1, "writeState", "()I"⟩
abbrev cX1_markAllOnDisk : ByteArray := prog_3_method_11_code
def yX1_markAllOnDisk : MethodName := ⟨RX1, "markAllOnDisk", "()V"⟩
abbrev cX1_dropMemory : ByteArray := prog_3_method_12_code
def yX1_dropMemory : MethodName := ⟨RX1, "dropMemory", "()V"⟩
abbrev cX1_clear : ByteArray := prog_3_method_13_code
def yX1_clear : MethodName := ⟨RX1, "clear", "()V"⟩
abbrev cX1_read : ByteArray := prog_3_method_14_code
def yX1_read : MethodName := ⟨RX1, "read", "(LStockLog$Cells;)I"⟩
abbrev cX1_judgeNext : ByteArray := prog_3_method_15_code
def yX1_judgeNext : MethodName := ⟨RX1, "judgeNext", "(LStockLog$Cells;)I"⟩
abbrev cX1_isState : ByteArray := prog_3_method_16_code
def yX1_isState : MethodName := ⟨RX1, "isState", "(LStockLog$Cells;II)Z"⟩
abbrev cX1_fillState : ByteArray := prog_3_method_17_code
def yX1_fillState : MethodName := ⟨RX1, "fillState", "()V"⟩
abbrev cX1_enlistNext : ByteArray := prog_3_method_18_code
def yX1_enlistNext : MethodName := ⟨RX1, "enlistNext", "()V"⟩
def RX2 : String := "StockLog"
def TX2 : u_T := fun k => match k with
  | 0 => ("StockLog", "sectors", "I", true)
  | 1 => ("StockLog", "disk", "LStockLog$Cells;", true)
  | 2 => ("StockLog", "kept", "LStockLog$Cells;", true)
  | 3 => ("StockLog", "told", "LStockLog$Cells;", true)
  | 4 => ("StockLog", "rows", "LStockLog$Rows;", true)
  | 5 => ("StockLog", "toldCount", "I", false)
  | 6 => ("StockLog", "foundBehind", "I", false)
  | 7 => ("StockLog", "up", "Z", false)
  | _ => ("StockLog", "hasBackup", "Z", false)
def tyX2 : Nat → FieldType := fun k => match k with
  | 0 => .int
  | 1 => .object "StockLog$Cells"
  | 2 => .object "StockLog$Cells"
  | 3 => .object "StockLog$Cells"
  | 4 => .object "StockLog$Rows"
  | 5 => .int
  | 6 => .int
  | 7 => .boolean
  | _ => .boolean
abbrev wsX20 : List Cond := u_ws RX2 TX2 9
theorem nmX2 : ∀ a, a < 9 → ∀ b, b < 9 → a ≠ b → (TX2 a).2.1 ≠ (TX2 b).2.1 := by decide +kernel
theorem tyX2_ok : ∀ k, k < 9 → parseFieldDescriptor (TX2 k).2.2.1 = some (tyX2 k) := by decide +kernel
abbrev cX2_init : ByteArray := prog_1_method_1_code
def yX2_init : MethodName := ⟨RX2, "<init>", "(I)V"⟩
abbrev cX2_add : ByteArray := prog_1_method_2_code
def yX2_add : MethodName := ⟨RX2, "add", "(I)I"⟩
abbrev cX2_end : ByteArray := prog_1_method_3_code
def yX2_end : MethodName := ⟨RX2, "end", "(I)I"⟩
abbrev cX2_whole : ByteArray := prog_1_method_4_code
def yX2_whole : MethodName := ⟨RX2, "whole", "()I"⟩
abbrev cX2_sync : ByteArray := prog_1_method_5_code
def yX2_sync : MethodName := ⟨RX2, "sync", "()I"⟩
abbrev cX2_cut : ByteArray := prog_1_method_6_code
def yX2_cut : MethodName := ⟨RX2, "cut", "(II)V"⟩
abbrev cX2_start : ByteArray := prog_1_method_7_code
def yX2_start : MethodName := ⟨RX2, "start", "()I"⟩
abbrev cX2_poke : ByteArray := prog_1_method_8_code
def yX2_poke : MethodName := ⟨RX2, "poke", "(III)I"⟩
abbrev cX2_byteOf : ByteArray := prog_1_method_9_code
def yX2_byteOf : MethodName := ⟨RX2, "byteOf", "(II)I"⟩
abbrev cX2_row : ByteArray := prog_1_method_10_code
def yX2_row : MethodName := ⟨RX2, "row", "(II)I"⟩
abbrev cX2_find : ByteArray := prog_1_method_11_code
def yX2_find : MethodName := ⟨RX2, "find", "(II)I"⟩
abbrev cX2_wrong : ByteArray := prog_1_method_12_code
def yX2_wrong : MethodName := ⟨RX2, "wrong", "()I"⟩
abbrev cX2_backup : ByteArray := prog_1_method_13_code
def yX2_backup : MethodName := ⟨RX2, "backup", "()I"⟩
abbrev cX2_restore : ByteArray := prog_1_method_14_code
def yX2_restore : MethodName := ⟨RX2, "restore", "()I"⟩
abbrev cX2_total : ByteArray := prog_1_method_15_code
def yX2_total : MethodName := ⟨RX2, "total", "(III)I"⟩
abbrev cX2_count : ByteArray := prog_1_method_16_code
def yX2_count : MethodName := ⟨RX2, "count", "(I)I"⟩
abbrev cX2_refuseOtherKind : ByteArray := prog_1_method_17_code
def yX2_refuseOtherKind : MethodName := ⟨RX2, "refuseOtherKind", "(I)V"⟩
abbrev cX2_refuseWhenDown : ByteArray := prog_1_method_18_code
def yX2_refuseWhenDown : MethodName := ⟨RX2, "refuseWhenDown", "()V"⟩
abbrev cX2_refuseWhenFull : ByteArray := prog_1_method_19_code
def yX2_refuseWhenFull : MethodName := ⟨RX2, "refuseWhenFull", "(I)V"⟩
abbrev cX2_placeOf : ByteArray := prog_1_method_20_code
def yX2_placeOf : MethodName := ⟨RX2, "placeOf", "(II)I"⟩
abbrev cX2_byteOfRow : ByteArray := prog_1_method_21_code
def yX2_byteOfRow : MethodName := ⟨RX2, "byteOfRow", "(II)I"⟩
abbrev cX2_readDisk : ByteArray := prog_1_method_22_code
def yX2_readDisk : MethodName := ⟨RX2, "readDisk", "()I"⟩
abbrev cX2_isKind : ByteArray := prog_1_method_23_code
def yX2_isKind : MethodName := ⟨RX2, "isKind", "(I)Z"⟩
abbrev cX2_sumOfRow : ByteArray := prog_1_method_24_code
def yX2_sumOfRow : MethodName := ⟨RX2, "sumOfRow", "(LStockLog$Cells;II)I"⟩
def RX3 : String := "StockLogModel"
def TX3 : u_T := fun k => match k with
  | 0 => ("StockLogModel", "size", "I", true)
  | 1 => ("StockLogModel", "disk", "[I", true)
  | 2 => ("StockLogModel", "saved", "[I", true)
  | 3 => ("StockLogModel", "hasBackup", "Z", false)
  | 4 => ("StockLogModel", "up", "Z", false)
  | 5 => ("StockLogModel", "image", "[I", true)
  | 6 => ("StockLogModel", "begin", "[I", true)
  | 7 => ("StockLogModel", "rows", "I", false)
  | 8 => ("StockLogModel", "synced", "I", false)
  | 9 => ("StockLogModel", "wrong", "I", false)
  | 10 => ("StockLogModel", "thrown", "I", false)
  | 11 => ("StockLogModel", "told", "[I", true)
  | _ => ("StockLogModel", "toldMany", "I", false)
def tyX3 : Nat → FieldType := fun k => match k with
  | 0 => .int
  | 1 => .array .int
  | 2 => .array .int
  | 3 => .boolean
  | 4 => .boolean
  | 5 => .array .int
  | 6 => .array .int
  | 7 => .int
  | 8 => .int
  | 9 => .int
  | 10 => .int
  | 11 => .array .int
  | _ => .int
abbrev wsX30 : List Cond := u_ws RX3 TX3 13
theorem nmX3 : ∀ a, a < 13 → ∀ b, b < 13 → a ≠ b → (TX3 a).2.1 ≠ (TX3 b).2.1 := by decide +kernel
theorem tyX3_ok : ∀ k, k < 13 → parseFieldDescriptor (TX3 k).2.2.1 = some (tyX3 k) := by decide +kernel
abbrev cX3_init : ByteArray := prog_5_method_1_code
def yX3_init : MethodName := ⟨RX3, "<init>", "(I)V"⟩
abbrev cX3_thrown : ByteArray := prog_5_method_2_code
def yX3_thrown : MethodName := ⟨RX3, "thrown", "()I"⟩
abbrev cX3_within : ByteArray := prog_5_method_3_code
def yX3_within : MethodName := ⟨RX3, "within", "(III)Z"⟩
abbrev cX3_kindOf : ByteArray := prog_5_method_4_code
def yX3_kindOf : MethodName := ⟨RX3, "kindOf", "(I)I"⟩
abbrev cX3_longOf : ByteArray := prog_5_method_5_code
def yX3_longOf : MethodName := ⟨RX3, "longOf", "(I)I"⟩
abbrev cX3_rowsOf : ByteArray := prog_5_method_6_code
def yX3_rowsOf : MethodName := ⟨RX3, "rowsOf", "(II)I"⟩
abbrev cX3_sumOf : ByteArray := prog_5_method_7_code
def yX3_sumOf : MethodName := ⟨RX3, "sumOf", "([III)I"⟩
abbrev cX3_isFull : ByteArray := prog_5_method_8_code
def yX3_isFull : MethodName := ⟨RX3, "isFull", "(I)Z"⟩
abbrev cX3_head : ByteArray := prog_5_method_9_code
def yX3_head : MethodName := ⟨RX3, "head", "(II)I"⟩
abbrev cX3_close : ByteArray := prog_5_method_10_code
def yX3_close : MethodName := ⟨RX3, "close", "(I)V"⟩
abbrev cX3_add : ByteArray := prog_5_method_11_code
def yX3_add : MethodName := ⟨RX3, "add", "(I)I"⟩
abbrev cX3_end : ByteArray := prog_5_method_12_code
def yX3_end : MethodName := ⟨RX3, "end", "(I)I"⟩
abbrev cX3_whole : ByteArray := prog_5_method_13_code
def yX3_whole : MethodName := ⟨RX3, "whole", "()I"⟩
abbrev cX3_inMemory : ByteArray := prog_5_method_14_code
def yX3_inMemory : MethodName := ⟨RX3, "inMemory", "()I"⟩
abbrev cX3_sync : ByteArray := prog_5_method_15_code
def yX3_sync : MethodName := ⟨RX3, "sync", "()I"⟩
abbrev cX3_cut : ByteArray := prog_5_method_16_code
def yX3_cut : MethodName := ⟨RX3, "cut", "(II)V"⟩
abbrev cX3_look : ByteArray := prog_5_method_17_code
def yX3_look : MethodName := ⟨RX3, "look", "(I)I"⟩
abbrev cX3_countsRight : ByteArray := prog_5_method_18_code
def yX3_countsRight : MethodName := ⟨RX3, "countsRight", "(II)Z"⟩
abbrev cX3_read : ByteArray := prog_5_method_19_code
def yX3_read : MethodName := ⟨RX3, "read", "()V"⟩
abbrev cX3_start : ByteArray := prog_5_method_20_code
def yX3_start : MethodName := ⟨RX3, "start", "()I"⟩
abbrev cX3_isByte : ByteArray := prog_5_method_21_code
def yX3_isByte : MethodName := ⟨RX3, "isByte", "(II)Z"⟩
abbrev cX3_poke : ByteArray := prog_5_method_22_code
def yX3_poke : MethodName := ⟨RX3, "poke", "(III)I"⟩
abbrev cX3_byteOf : ByteArray := prog_5_method_23_code
def yX3_byteOf : MethodName := ⟨RX3, "byteOf", "(II)I"⟩
abbrev cX3_backup : ByteArray := prog_5_method_24_code
def yX3_backup : MethodName := ⟨RX3, "backup", "()I"⟩
abbrev cX3_restore : ByteArray := prog_5_method_25_code
def yX3_restore : MethodName := ⟨RX3, "restore", "()I"⟩
abbrev cX3_row : ByteArray := prog_5_method_26_code
def yX3_row : MethodName := ⟨RX3, "row", "(II)I"⟩
abbrev cX3_find : ByteArray := prog_5_method_27_code
def yX3_find : MethodName := ⟨RX3, "find", "(II)I"⟩
abbrev cX3_wrong : ByteArray := prog_5_method_28_code
def yX3_wrong : MethodName := ⟨RX3, "wrong", "()I"⟩
abbrev cX3_total : ByteArray := prog_5_method_29_code
def yX3_total : MethodName := ⟨RX3, "total", "(III)I"⟩
abbrev cX3_count : ByteArray := prog_5_method_30_code
def yX3_count : MethodName := ⟨RX3, "count", "(I)I"⟩
def RJx00060 : String := "java/lang/ArrayIndexOutOfBoundsException"
def TJx00060 : u_T := fun k => match k with
  | 0 => ("java/lang/Throwable", "cause", "Ljava/lang/Throwable;", false)
  | 1 => ("java/lang/Throwable", "stackTrace", "[Ljava/lang/StackTraceElement;", false)
  | 2 => ("java/lang/Throwable", "suppressedExceptions", "Ljava/util/List;", false)
  | 3 => ("java/lang/Throwable", "detailMessage", "Ljava/lang/String;", false)
  | 4 => ("java/lang/Throwable", "backtrace", "Ljava/lang/Object;", false)
  | _ => ("java/lang/Throwable", "depth", "I", false)
def tyJx00060 : Nat → FieldType := fun k => match k with
  | 0 => .object "java/lang/Throwable"
  | 1 => .array (.object "java/lang/StackTraceElement")
  | 2 => .object "java/util/List"
  | 3 => .object "java/lang/String"
  | 4 => .object "java/lang/Object"
  | _ => .int
abbrev wsJx000600 : List Cond := u_ws RJx00060 TJx00060 6
theorem nmJx00060 : ∀ a, a < 6 → ∀ b, b < 6 → a ≠ b → (TJx00060 a).2.1 ≠ (TJx00060 b).2.1 := by decide +kernel
theorem tyJx00060_ok : ∀ k, k < 6 → parseFieldDescriptor (TJx00060 k).2.2.1 = some (tyJx00060 k) := by decide +kernel
abbrev cJx00060_init_a7421 : ByteArray := prog_6_method_2_code
def yJx00060_init_a7421 : MethodName := ⟨RJx00060, "<init>", "(Ljava/lang/String;)V"⟩
def RJ9 : String := "java/lang/Math"
def TJ9 : u_T := fun k => match k with
  | _ => ("", "", "", false)
def tyJ9 : Nat → FieldType := fun k => match k with
  | _ => .int
abbrev wsJ90 : List Cond := u_ws RJ9 TJ9 0
theorem nmJ9 : ∀ a, a < 0 → ∀ b, b < 0 → a ≠ b → (TJ9 a).2.1 ≠ (TJ9 b).2.1 := by decide +kernel
theorem tyJ9_ok : ∀ k, k < 0 → parseFieldDescriptor (TJ9 k).2.2.1 = some (tyJ9 k) := by decide +kernel
abbrev cJ9_max_7cf53 : ByteArray := prog_11_method_65_code
def yJ9_max_7cf53 : MethodName := ⟨RJ9, "max", "(II)I"⟩
abbrev cJ9_min_7cf53 : ByteArray := prog_11_method_69_code
def yJ9_min_7cf53 : MethodName := ⟨RJ9, "min", "(II)I"⟩
def RJ0 : String := "java/lang/String"
def TJ0 : u_T := fun k => match k with
  | _ => ("", "", "", false)
def tyJ0 : Nat → FieldType := fun k => match k with
  | _ => .int
abbrev wsJ00 : List Cond := u_ws RJ0 TJ0 0
theorem nmJ0 : ∀ a, a < 0 → ∀ b, b < 0 → a ≠ b → (TJ0 a).2.1 ≠ (TJ0 b).2.1 := by decide +kernel
theorem tyJ0_ok : ∀ k, k < 0 → parseFieldDescriptor (TJ0 k).2.2.1 = some (tyJ0 k) := by decide +kernel
def RL : String := "StockLogLaw"
abbrev cL_cell : ByteArray := method_2_code
def yL_cell : MethodName := ⟨RL, "cell", "([II)I"⟩
abbrev cL_add : ByteArray := method_3_code
def yL_add : MethodName := ⟨RL, "add", "(LStockLog;I[J)I"⟩
abbrev cL_end : ByteArray := method_4_code
def yL_end : MethodName := ⟨RL, "end", "(LStockLog;I[J)I"⟩
abbrev cL_whole : ByteArray := method_5_code
def yL_whole : MethodName := ⟨RL, "whole", "(LStockLog;[J)I"⟩
abbrev cL_sync : ByteArray := method_6_code
def yL_sync : MethodName := ⟨RL, "sync", "(LStockLog;[J)I"⟩
abbrev cL_cut : ByteArray := method_7_code
def yL_cut : MethodName := ⟨RL, "cut", "(LStockLog;II)I"⟩
abbrev cL_poke : ByteArray := method_8_code
def yL_poke : MethodName := ⟨RL, "poke", "(LStockLog;III[J)I"⟩
abbrev cL_byteOf : ByteArray := method_9_code
def yL_byteOf : MethodName := ⟨RL, "byteOf", "(LStockLog;II[J)I"⟩
abbrev cL_row : ByteArray := method_10_code
def yL_row : MethodName := ⟨RL, "row", "(LStockLog;II[J)I"⟩
abbrev cL_find : ByteArray := method_11_code
def yL_find : MethodName := ⟨RL, "find", "(LStockLog;II[J)I"⟩
abbrev cL_backup : ByteArray := method_12_code
def yL_backup : MethodName := ⟨RL, "backup", "(LStockLog;[J)I"⟩
abbrev cL_restore : ByteArray := method_13_code
def yL_restore : MethodName := ⟨RL, "restore", "(LStockLog;[J)I"⟩
abbrev cL_total : ByteArray := method_14_code
def yL_total : MethodName := ⟨RL, "total", "(LStockLog;III[J)I"⟩
abbrev cL_law : ByteArray := code
def yL_law : MethodName := ⟨RL, "law", "([I)Z"⟩
def wsX0_init : List Cond := .code yX0_init cX0_init 2 none :: ([.methodLink RX0 3 objectInit, .instanceMethod objectInit, .code objectInit ⟨#[0xb1]⟩ 1 none, .methodLink RX0 9 Lib.Math.max.name, .static Lib.Math.max.name, .initialized "java/lang/Math", .code Lib.Math.max.name Lib.Math.max.code 2 (some .int), .arrayClass .int, .fieldLink RX0 15 "StockLog$Cells" "cells" "[I"] ++ wsX00)
def wsX0_length : List Cond := .code yX0_length cX0_length 1 (some .int) :: ([.fieldLink RX0 15 "StockLog$Cells" "cells" "[I"] ++ wsX00)
def wsX0_at : List Cond := .code yX0_at cX0_at 2 (some .int) :: ([.fieldLink RX0 15 "StockLog$Cells" "cells" "[I"] ++ wsX00)
def wsX0_set : List Cond := .code yX0_set cX0_set 3 none :: ([.fieldLink RX0 15 "StockLog$Cells" "cells" "[I"] ++ wsX00)
def wsX0_copy : List Cond := .code yX0_copy cX0_copy 5 none :: ([.methodLink RX0 21 yX0_at, .instanceMethod yX0_at, .selects RX0 yX0_at yX0_at, .initialized RX0, .code yX0_at cX0_at 2 (some .int), .fieldLink RX0 15 "StockLog$Cells" "cells" "[I", .methodLink RX0 25 yX0_set, .instanceMethod yX0_set, .selects RX0 yX0_set yX0_set, .code yX0_set cX0_set 3 none] ++ wsX00)
def wsX0_isZeroFrom : List Cond := .code yX0_isZeroFrom cX0_isZeroFrom 3 (some .boolean) :: ([.fieldLink RX0 15 "StockLog$Cells" "cells" "[I", .methodLink RX0 21 yX0_at, .instanceMethod yX0_at, .selects RX0 yX0_at yX0_at, .initialized RX0, .code yX0_at cX0_at 2 (some .int)] ++ wsX00)
def wsX0_numberAt : List Cond := .code yX0_numberAt cX0_numberAt 5 (some .int) :: ([.methodLink RX0 21 yX0_at, .instanceMethod yX0_at, .selects RX0 yX0_at yX0_at, .initialized RX0, .code yX0_at cX0_at 2 (some .int), .fieldLink RX0 15 "StockLog$Cells" "cells" "[I"] ++ wsX00)
def wsX0_setNumber : List Cond := .code yX0_setNumber cX0_setNumber 6 none :: ([.methodLink RX0 25 yX0_set, .instanceMethod yX0_set, .selects RX0 yX0_set yX0_set, .initialized RX0, .code yX0_set cX0_set 3 none, .fieldLink RX0 15 "StockLog$Cells" "cells" "[I"] ++ wsX00)
def wsX1_init : List Cond := .code yX1_init cX1_init 2 none :: ([.methodLink RX1 3 objectInit, .instanceMethod objectInit, .code objectInit ⟨#[0xb1]⟩ 1 none, .classLink RX1 9 RX0, .instantiable RX0 1, .initialized RX0, .fieldLink RX1 14 "StockLog$Rows" "image" "LStockLog$Cells;", .fieldLink RX1 20 "StockLog$Rows" "starts" "LStockLog$Cells;", .fieldLink RX1 23 "StockLog$Rows" "ofKind" "LStockLog$Cells;", .fieldLink RX1 26 "StockLog$Rows" "state" "LStockLog$Cells;", .methodLink RX1 11 yX0_init, .instanceMethod yX0_init, .code yX0_init cX0_init 2 none, .methodLink RX0 3 objectInit, .methodLink RX0 9 Lib.Math.max.name, .static Lib.Math.max.name, .initialized "java/lang/Math", .code Lib.Math.max.name Lib.Math.max.code 2 (some .int), .arrayClass .int, .fieldLink RX0 15 "StockLog$Cells" "cells" "[I"] ++ wsX00 ++ wsX10)
def wsX1_has : List Cond := .code yX1_has cX1_has 2 (some .boolean) :: ([.fieldLink RX1 29 "StockLog$Rows" "last" "I"] ++ wsX10)
def wsX1_kindOf : List Cond := .code yX1_kindOf cX1_kindOf 2 (some .int) :: ([.fieldLink RX1 14 "StockLog$Rows" "image" "LStockLog$Cells;", .fieldLink RX1 20 "StockLog$Rows" "starts" "LStockLog$Cells;", .methodLink RX1 33 yX0_at, .instanceMethod yX0_at, .selects RX0 yX0_at yX0_at, .initialized RX0, .code yX0_at cX0_at 2 (some .int), .fieldLink RX0 15 "StockLog$Cells" "cells" "[I"] ++ wsX10 ++ wsX00)
def wsX1_lengthOf : List Cond := .code yX1_lengthOf cX1_lengthOf 2 (some .int) :: ([.fieldLink RX1 14 "StockLog$Rows" "image" "LStockLog$Cells;", .fieldLink RX1 20 "StockLog$Rows" "starts" "LStockLog$Cells;", .methodLink RX1 33 yX0_at, .instanceMethod yX0_at, .selects RX0 yX0_at yX0_at, .initialized RX0, .code yX0_at cX0_at 2 (some .int), .fieldLink RX0 15 "StockLog$Cells" "cells" "[I"] ++ wsX10 ++ wsX00)
def wsX1_byteAt : List Cond := .code yX1_byteAt cX1_byteAt 3 (some .int) :: ([.fieldLink RX1 14 "StockLog$Rows" "image" "LStockLog$Cells;", .fieldLink RX1 20 "StockLog$Rows" "starts" "LStockLog$Cells;", .methodLink RX1 33 yX0_at, .instanceMethod yX0_at, .selects RX0 yX0_at yX0_at, .initialized RX0, .code yX0_at cX0_at 2 (some .int), .fieldLink RX0 15 "StockLog$Cells" "cells" "[I"] ++ wsX10 ++ wsX00)
def wsX1_sumOfBytes : List Cond := .code yX1_sumOfBytes cX1_sumOfBytes 5 (some .int) :: ([.methodLink RX1 37 yX1_lengthOf, .instanceMethod yX1_lengthOf, .selects RX1 yX1_lengthOf yX1_lengthOf, .initialized RX1, .code yX1_lengthOf cX1_lengthOf 2 (some .int), .fieldLink RX1 14 "StockLog$Rows" "image" "LStockLog$Cells;", .fieldLink RX1 20 "StockLog$Rows" "starts" "LStockLog$Cells;", .methodLink RX1 33 yX0_at, .instanceMethod yX0_at, .selects RX0 yX0_at yX0_at, .initialized RX0, .code yX0_at cX0_at 2 (some .int), .fieldLink RX0 15 "StockLog$Cells" "cells" "[I", .methodLink RX1 40 yX1_byteAt, .instanceMethod yX1_byteAt, .selects RX1 yX1_byteAt yX1_byteAt, .code yX1_byteAt cX1_byteAt 3 (some .int)] ++ wsX10 ++ wsX00)
def wsX1_numberOf : List Cond := .code yX1_numberOf cX1_numberOf 5 (some .int) :: ([.fieldLink RX1 29 "StockLog$Rows" "last" "I", .methodLink RX1 44 yX1_kindOf, .instanceMethod yX1_kindOf, .selects RX1 yX1_kindOf yX1_kindOf, .initialized RX1, .code yX1_kindOf cX1_kindOf 2 (some .int), .fieldLink RX1 14 "StockLog$Rows" "image" "LStockLog$Cells;", .fieldLink RX1 20 "StockLog$Rows" "starts" "LStockLog$Cells;", .methodLink RX1 33 yX0_at, .instanceMethod yX0_at, .selects RX0 yX0_at yX0_at, .initialized RX0, .code yX0_at cX0_at 2 (some .int), .fieldLink RX0 15 "StockLog$Cells" "cells" "[I"] ++ wsX10 ++ wsX00)
def wsX1_bytesInMemory : List Cond := .code yX1_bytesInMemory cX1_bytesInMemory 1 (some .int) :: ([.fieldLink RX1 47 "StockLog$Rows" "used" "I", .fieldLink RX1 50 "StockLog$Rows" "usedOnDisk" "I"] ++ wsX10)
def wsX2_sumOfRow : List Cond := .code yX2_sumOfRow cX2_sumOfRow 7 (some .int) :: ([.constant RX2 201 (-2048144777), .methodLink RX2 115 yX0_at, .instanceMethod yX0_at, .selects RX0 yX0_at yX0_at, .initialized RX0, .code yX0_at cX0_at 2 (some .int), .fieldLink RX0 15 "StockLog$Cells" "cells" "[I"] ++ wsX00)
def wsX1_enlistNext : List Cond := .code yX1_enlistNext cX1_enlistNext 2 none :: ([.fieldLink RX1 29 "StockLog$Rows" "last" "I", .fieldLink RX1 20 "StockLog$Rows" "starts" "LStockLog$Cells;", .fieldLink RX1 47 "StockLog$Rows" "used" "I", .fieldLink RX1 23 "StockLog$Rows" "ofKind" "LStockLog$Cells;", .methodLink RX1 53 yX0_set, .instanceMethod yX0_set, .selects RX0 yX0_set yX0_set, .initialized RX0, .code yX0_set cX0_set 3 none, .fieldLink RX0 15 "StockLog$Cells" "cells" "[I", .methodLink RX1 44 yX1_kindOf, .instanceMethod yX1_kindOf, .selects RX1 yX1_kindOf yX1_kindOf, .initialized RX1, .code yX1_kindOf cX1_kindOf 2 (some .int), .fieldLink RX1 14 "StockLog$Rows" "image" "LStockLog$Cells;", .methodLink RX1 33 yX0_at, .instanceMethod yX0_at, .selects RX0 yX0_at yX0_at, .code yX0_at cX0_at 2 (some .int), .methodLink RX1 37 yX1_lengthOf, .instanceMethod yX1_lengthOf, .selects RX1 yX1_lengthOf yX1_lengthOf, .code yX1_lengthOf cX1_lengthOf 2 (some .int)] ++ wsX10 ++ wsX00)
def wsX1_write_r1 : List Cond := [Cond.fieldLink RX1 14 "StockLog$Rows" "image" "LStockLog$Cells;", Cond.fieldLink RX1 47 "StockLog$Rows" "used" "I", Cond.fieldLink RX1 29 "StockLog$Rows" "last" "I", Cond.methodLink RX1 53 yX0_set, Cond.instanceMethod yX0_set, Cond.selects RX0 yX0_set yX0_set, Cond.initialized RX0, Cond.code yX0_set cX0_set 3 none, Cond.fieldLink RX0 15 "StockLog$Cells" "cells" "[I", Cond.methodLink RX1 57 yX0_setNumber, Cond.instanceMethod yX0_setNumber, Cond.selects RX0 yX0_setNumber yX0_setNumber, Cond.code yX0_setNumber cX0_setNumber 6 none, Cond.methodLink RX0 25 yX0_set, Cond.methodLink RX1 33 yX0_at, Cond.instanceMethod yX0_at, Cond.selects RX0 yX0_at yX0_at, Cond.code yX0_at cX0_at 2 (some .int), Cond.static yX2_sumOfRow, Cond.initialized RX2, Cond.code yX2_sumOfRow cX2_sumOfRow 7 (some .int), Cond.constant RX2 201 (-2048144777), Cond.methodLink RX2 115 yX0_at, Cond.methodLink RX1 65 yX1_enlistNext]
def wsX1_write_r2 : List Cond := [Cond.instanceMethod yX1_enlistNext, Cond.selects RX1 yX1_enlistNext yX1_enlistNext, Cond.initialized RX1, Cond.code yX1_enlistNext cX1_enlistNext 2 none, Cond.fieldLink RX1 20 "StockLog$Rows" "starts" "LStockLog$Cells;", Cond.fieldLink RX1 23 "StockLog$Rows" "ofKind" "LStockLog$Cells;", Cond.methodLink RX1 44 yX1_kindOf, Cond.instanceMethod yX1_kindOf, Cond.selects RX1 yX1_kindOf yX1_kindOf, Cond.code yX1_kindOf cX1_kindOf 2 (some .int), Cond.methodLink RX1 37 yX1_lengthOf, Cond.instanceMethod yX1_lengthOf, Cond.selects RX1 yX1_lengthOf yX1_lengthOf, Cond.code yX1_lengthOf cX1_lengthOf 2 (some .int)]
def wsX1_write : List Cond := .code yX1_write cX1_write 5 (some .int) :: ((wsX1_write_r1 ++ wsX1_write_r2) ++ wsX10 ++ wsX00)
def wsX1_fillState : List Cond := .code yX1_fillState cX1_fillState 2 none :: ([.fieldLink RX1 26 "StockLog$Rows" "state" "LStockLog$Cells;", .fieldLink RX1 23 "StockLog$Rows" "ofKind" "LStockLog$Cells;", .methodLink RX1 33 yX0_at, .instanceMethod yX0_at, .selects RX0 yX0_at yX0_at, .initialized RX0, .code yX0_at cX0_at 2 (some .int), .fieldLink RX0 15 "StockLog$Cells" "cells" "[I", .methodLink RX1 57 yX0_setNumber, .instanceMethod yX0_setNumber, .selects RX0 yX0_setNumber yX0_setNumber, .code yX0_setNumber cX0_setNumber 6 none, .methodLink RX0 25 yX0_set, .instanceMethod yX0_set, .selects RX0 yX0_set yX0_set, .code yX0_set cX0_set 3 none] ++ wsX10 ++ wsX00)
def wsX1_writeState_r1 : List Cond := [Cond.fieldLink RX1 26 "StockLog$Rows" "state" "LStockLog$Cells;", Cond.methodLink RX1 68 yX1_fillState, Cond.instanceMethod yX1_fillState, Cond.selects RX1 yX1_fillState yX1_fillState, Cond.initialized RX1, Cond.code yX1_fillState cX1_fillState 2 none, Cond.fieldLink RX1 23 "StockLog$Rows" "ofKind" "LStockLog$Cells;", Cond.methodLink RX1 33 yX0_at, Cond.instanceMethod yX0_at, Cond.selects RX0 yX0_at yX0_at, Cond.initialized RX0, Cond.code yX0_at cX0_at 2 (some .int), Cond.fieldLink RX0 15 "StockLog$Cells" "cells" "[I", Cond.methodLink RX1 57 yX0_setNumber, Cond.instanceMethod yX0_setNumber, Cond.selects RX0 yX0_setNumber yX0_setNumber, Cond.code yX0_setNumber cX0_setNumber 6 none, Cond.methodLink RX0 25 yX0_set, Cond.instanceMethod yX0_set, Cond.selects RX0 yX0_set yX0_set, Cond.code yX0_set cX0_set 3 none, Cond.methodLink RX1 71 yX1_write, Cond.instanceMethod yX1_write, Cond.selects RX1 yX1_write yX1_write]
def wsX1_writeState_r2 : List Cond := [Cond.code yX1_write cX1_write 5 (some .int), Cond.fieldLink RX1 14 "StockLog$Rows" "image" "LStockLog$Cells;", Cond.fieldLink RX1 47 "StockLog$Rows" "used" "I", Cond.fieldLink RX1 29 "StockLog$Rows" "last" "I", Cond.methodLink RX1 53 yX0_set, Cond.static yX2_sumOfRow, Cond.initialized RX2, Cond.code yX2_sumOfRow cX2_sumOfRow 7 (some .int), Cond.constant RX2 201 (-2048144777), Cond.methodLink RX2 115 yX0_at, Cond.methodLink RX1 65 yX1_enlistNext, Cond.instanceMethod yX1_enlistNext, Cond.selects RX1 yX1_enlistNext yX1_enlistNext, Cond.code yX1_enlistNext cX1_enlistNext 2 none, Cond.fieldLink RX1 20 "StockLog$Rows" "starts" "LStockLog$Cells;", Cond.methodLink RX1 44 yX1_kindOf, Cond.instanceMethod yX1_kindOf, Cond.selects RX1 yX1_kindOf yX1_kindOf, Cond.code yX1_kindOf cX1_kindOf 2 (some .int), Cond.methodLink RX1 37 yX1_lengthOf, Cond.instanceMethod yX1_lengthOf, Cond.selects RX1 yX1_lengthOf yX1_lengthOf, Cond.code yX1_lengthOf cX1_lengthOf 2 (some .int)]
def wsX1_writeState : List Cond := .code yX1_writeState cX1_writeState 1 (some .int) :: ((wsX1_writeState_r1 ++ wsX1_writeState_r2) ++ wsX10 ++ wsX00)
def wsX1_markAllOnDisk : List Cond := .code yX1_markAllOnDisk cX1_markAllOnDisk 1 none :: ([.fieldLink RX1 29 "StockLog$Rows" "last" "I", .fieldLink RX1 75 "StockLog$Rows" "lastOnDisk" "I", .fieldLink RX1 47 "StockLog$Rows" "used" "I", .fieldLink RX1 50 "StockLog$Rows" "usedOnDisk" "I"] ++ wsX10)
def wsX1_dropMemory : List Cond := .code yX1_dropMemory cX1_dropMemory 3 none :: ([.fieldLink RX1 75 "StockLog$Rows" "lastOnDisk" "I", .fieldLink RX1 29 "StockLog$Rows" "last" "I", .fieldLink RX1 23 "StockLog$Rows" "ofKind" "LStockLog$Cells;", .fieldLink RX1 50 "StockLog$Rows" "usedOnDisk" "I", .fieldLink RX1 47 "StockLog$Rows" "used" "I", .methodLink RX1 44 yX1_kindOf, .instanceMethod yX1_kindOf, .selects RX1 yX1_kindOf yX1_kindOf, .initialized RX1, .code yX1_kindOf cX1_kindOf 2 (some .int), .fieldLink RX1 14 "StockLog$Rows" "image" "LStockLog$Cells;", .fieldLink RX1 20 "StockLog$Rows" "starts" "LStockLog$Cells;", .methodLink RX1 33 yX0_at, .instanceMethod yX0_at, .selects RX0 yX0_at yX0_at, .initialized RX0, .code yX0_at cX0_at 2 (some .int), .fieldLink RX0 15 "StockLog$Cells" "cells" "[I", .methodLink RX1 53 yX0_set, .instanceMethod yX0_set, .selects RX0 yX0_set yX0_set, .code yX0_set cX0_set 3 none] ++ wsX10 ++ wsX00)
def wsX1_clear_r1 : List Cond := [Cond.fieldLink RX1 75 "StockLog$Rows" "lastOnDisk" "I", Cond.fieldLink RX1 50 "StockLog$Rows" "usedOnDisk" "I", Cond.methodLink RX1 78 yX1_dropMemory, Cond.instanceMethod yX1_dropMemory, Cond.selects RX1 yX1_dropMemory yX1_dropMemory, Cond.initialized RX1, Cond.code yX1_dropMemory cX1_dropMemory 3 none, Cond.fieldLink RX1 29 "StockLog$Rows" "last" "I", Cond.fieldLink RX1 23 "StockLog$Rows" "ofKind" "LStockLog$Cells;", Cond.fieldLink RX1 47 "StockLog$Rows" "used" "I", Cond.methodLink RX1 44 yX1_kindOf, Cond.instanceMethod yX1_kindOf, Cond.selects RX1 yX1_kindOf yX1_kindOf, Cond.code yX1_kindOf cX1_kindOf 2 (some .int), Cond.fieldLink RX1 14 "StockLog$Rows" "image" "LStockLog$Cells;", Cond.fieldLink RX1 20 "StockLog$Rows" "starts" "LStockLog$Cells;", Cond.methodLink RX1 33 yX0_at, Cond.instanceMethod yX0_at, Cond.selects RX0 yX0_at yX0_at, Cond.initialized RX0, Cond.code yX0_at cX0_at 2 (some .int), Cond.fieldLink RX0 15 "StockLog$Cells" "cells" "[I", Cond.methodLink RX1 53 yX0_set, Cond.instanceMethod yX0_set]
def wsX1_clear_r2 : List Cond := [Cond.selects RX0 yX0_set yX0_set, Cond.code yX0_set cX0_set 3 none]
def wsX1_clear : List Cond := .code yX1_clear cX1_clear 1 none :: ((wsX1_clear_r1 ++ wsX1_clear_r2) ++ wsX10 ++ wsX00)
def wsX2_isKind : List Cond := .code yX2_isKind cX2_isKind 1 (some .boolean) :: ([])
def wsX1_isState : List Cond := .code yX1_isState cX1_isState 5 (some .boolean) :: ([.fieldLink RX1 23 "StockLog$Rows" "ofKind" "LStockLog$Cells;", .methodLink RX1 100 yX0_numberAt, .instanceMethod yX0_numberAt, .selects RX0 yX0_numberAt yX0_numberAt, .initialized RX0, .code yX0_numberAt cX0_numberAt 5 (some .int), .methodLink RX0 21 yX0_at, .instanceMethod yX0_at, .selects RX0 yX0_at yX0_at, .code yX0_at cX0_at 2 (some .int), .fieldLink RX0 15 "StockLog$Cells" "cells" "[I", .methodLink RX1 33 yX0_at] ++ wsX10 ++ wsX00)
def wsX1_judgeNext_r1 : List Cond := [Cond.fieldLink RX1 47 "StockLog$Rows" "used" "I", Cond.fieldLink RX1 29 "StockLog$Rows" "last" "I", Cond.methodLink RX1 93 yX0_isZeroFrom, Cond.instanceMethod yX0_isZeroFrom, Cond.selects RX0 yX0_isZeroFrom yX0_isZeroFrom, Cond.initialized RX0, Cond.code yX0_isZeroFrom cX0_isZeroFrom 3 (some .boolean), Cond.fieldLink RX0 15 "StockLog$Cells" "cells" "[I", Cond.methodLink RX0 21 yX0_at, Cond.instanceMethod yX0_at, Cond.selects RX0 yX0_at yX0_at, Cond.code yX0_at cX0_at 2 (some .int), Cond.methodLink RX1 33 yX0_at, Cond.methodLink RX1 85 yX0_length, Cond.instanceMethod yX0_length, Cond.selects RX0 yX0_length yX0_length, Cond.code yX0_length cX0_length 1 (some .int), Cond.static yX2_isKind, Cond.initialized RX2, Cond.code yX2_isKind cX2_isKind 1 (some .boolean), Cond.methodLink RX1 100 yX0_numberAt, Cond.instanceMethod yX0_numberAt, Cond.selects RX0 yX0_numberAt yX0_numberAt, Cond.code yX0_numberAt cX0_numberAt 5 (some .int)]
def wsX1_judgeNext_r2 : List Cond := [Cond.static yX2_sumOfRow, Cond.code yX2_sumOfRow cX2_sumOfRow 7 (some .int), Cond.constant RX2 201 (-2048144777), Cond.methodLink RX2 115 yX0_at, Cond.methodLink RX1 103 yX1_isState, Cond.instanceMethod yX1_isState, Cond.selects RX1 yX1_isState yX1_isState, Cond.initialized RX1, Cond.code yX1_isState cX1_isState 5 (some .boolean), Cond.fieldLink RX1 23 "StockLog$Rows" "ofKind" "LStockLog$Cells;"]
def wsX1_judgeNext : List Cond := .code yX1_judgeNext cX1_judgeNext 3 (some .int) :: ((wsX1_judgeNext_r1 ++ wsX1_judgeNext_r2) ++ wsX10 ++ wsX00)
def wsX1_read_r1 : List Cond := [Cond.fieldLink RX1 47 "StockLog$Rows" "used" "I", Cond.fieldLink RX1 14 "StockLog$Rows" "image" "LStockLog$Cells;", Cond.methodLink RX1 81 yX1_judgeNext, Cond.instanceMethod yX1_judgeNext, Cond.selects RX1 yX1_judgeNext yX1_judgeNext, Cond.initialized RX1, Cond.code yX1_judgeNext cX1_judgeNext 3 (some .int), Cond.fieldLink RX1 29 "StockLog$Rows" "last" "I", Cond.methodLink RX1 93 yX0_isZeroFrom, Cond.instanceMethod yX0_isZeroFrom, Cond.selects RX0 yX0_isZeroFrom yX0_isZeroFrom, Cond.initialized RX0, Cond.code yX0_isZeroFrom cX0_isZeroFrom 3 (some .boolean), Cond.fieldLink RX0 15 "StockLog$Cells" "cells" "[I", Cond.methodLink RX0 21 yX0_at, Cond.instanceMethod yX0_at, Cond.selects RX0 yX0_at yX0_at, Cond.code yX0_at cX0_at 2 (some .int), Cond.methodLink RX1 33 yX0_at, Cond.methodLink RX1 85 yX0_length, Cond.instanceMethod yX0_length, Cond.selects RX0 yX0_length yX0_length, Cond.code yX0_length cX0_length 1 (some .int), Cond.static yX2_isKind]
def wsX1_read_r2 : List Cond := [Cond.initialized RX2, Cond.code yX2_isKind cX2_isKind 1 (some .boolean), Cond.methodLink RX1 100 yX0_numberAt, Cond.instanceMethod yX0_numberAt, Cond.selects RX0 yX0_numberAt yX0_numberAt, Cond.code yX0_numberAt cX0_numberAt 5 (some .int), Cond.static yX2_sumOfRow, Cond.code yX2_sumOfRow cX2_sumOfRow 7 (some .int), Cond.constant RX2 201 (-2048144777), Cond.methodLink RX2 115 yX0_at, Cond.methodLink RX1 103 yX1_isState, Cond.instanceMethod yX1_isState, Cond.selects RX1 yX1_isState yX1_isState, Cond.code yX1_isState cX1_isState 5 (some .boolean), Cond.fieldLink RX1 23 "StockLog$Rows" "ofKind" "LStockLog$Cells;", Cond.methodLink RX1 89 yX0_copy, Cond.instanceMethod yX0_copy, Cond.selects RX0 yX0_copy yX0_copy, Cond.code yX0_copy cX0_copy 5 none, Cond.methodLink RX0 25 yX0_set, Cond.instanceMethod yX0_set, Cond.selects RX0 yX0_set yX0_set, Cond.code yX0_set cX0_set 3 none, Cond.methodLink RX1 65 yX1_enlistNext]
def wsX1_read_r3 : List Cond := [Cond.instanceMethod yX1_enlistNext, Cond.selects RX1 yX1_enlistNext yX1_enlistNext, Cond.code yX1_enlistNext cX1_enlistNext 2 none, Cond.fieldLink RX1 20 "StockLog$Rows" "starts" "LStockLog$Cells;", Cond.methodLink RX1 53 yX0_set, Cond.methodLink RX1 44 yX1_kindOf, Cond.instanceMethod yX1_kindOf, Cond.selects RX1 yX1_kindOf yX1_kindOf, Cond.code yX1_kindOf cX1_kindOf 2 (some .int), Cond.methodLink RX1 37 yX1_lengthOf, Cond.instanceMethod yX1_lengthOf, Cond.selects RX1 yX1_lengthOf yX1_lengthOf, Cond.code yX1_lengthOf cX1_lengthOf 2 (some .int)]
def wsX1_read : List Cond := .code yX1_read cX1_read 5 (some .int) :: ((wsX1_read_r1 ++ (wsX1_read_r2 ++ wsX1_read_r3)) ++ wsX10 ++ wsX00)
def wsX2_init_r1 : List Cond := [Cond.methodLink RX2 3 objectInit, Cond.instanceMethod objectInit, Cond.code objectInit ⟨#[0xb1]⟩ 1 none, Cond.methodLink RX2 9 Lib.Math.min.name, Cond.static Lib.Math.min.name, Cond.initialized "java/lang/Math", Cond.code Lib.Math.min.name Lib.Math.min.code 2 (some .int), Cond.methodLink RX2 15 Lib.Math.max.name, Cond.static Lib.Math.max.name, Cond.code Lib.Math.max.name Lib.Math.max.code 2 (some .int), Cond.fieldLink RX2 18 "StockLog" "sectors" "I", Cond.classLink RX2 22 RX0, Cond.instantiable RX0 1, Cond.initialized RX0, Cond.fieldLink RX2 27 "StockLog" "disk" "LStockLog$Cells;", Cond.fieldLink RX2 31 "StockLog" "kept" "LStockLog$Cells;", Cond.fieldLink RX2 34 "StockLog" "told" "LStockLog$Cells;", Cond.classLink RX2 37 RX1, Cond.instantiable RX1 8, Cond.initialized RX1, Cond.fieldLink RX2 40 "StockLog" "rows" "LStockLog$Rows;", Cond.fieldLink RX2 44 "StockLog" "foundBehind" "I", Cond.fieldLink RX2 47 "StockLog" "up" "Z", Cond.methodLink RX2 24 yX0_init]
def wsX2_init_r2 : List Cond := [Cond.instanceMethod yX0_init, Cond.code yX0_init cX0_init 2 none, Cond.methodLink RX0 3 objectInit, Cond.methodLink RX0 9 Lib.Math.max.name, Cond.arrayClass .int, Cond.fieldLink RX0 15 "StockLog$Cells" "cells" "[I", Cond.methodLink RX2 39 yX1_init, Cond.instanceMethod yX1_init, Cond.code yX1_init cX1_init 2 none, Cond.methodLink RX1 3 objectInit, Cond.classLink RX1 9 RX0, Cond.fieldLink RX1 14 "StockLog$Rows" "image" "LStockLog$Cells;", Cond.fieldLink RX1 20 "StockLog$Rows" "starts" "LStockLog$Cells;", Cond.fieldLink RX1 23 "StockLog$Rows" "ofKind" "LStockLog$Cells;", Cond.fieldLink RX1 26 "StockLog$Rows" "state" "LStockLog$Cells;", Cond.methodLink RX1 11 yX0_init]
def wsX2_init : List Cond := .code yX2_init cX2_init 3 none :: ((wsX2_init_r1 ++ wsX2_init_r2) ++ wsX20 ++ wsX00 ++ wsX10)
def wsX2_refuseWhenDown : List Cond := .code yX2_refuseWhenDown cX2_refuseWhenDown 1 none :: ([.classLink RX2 161 "java/lang/IllegalStateException", .initialized "java/lang/IllegalStateException", .fieldLink RX2 47 "StockLog" "up" "Z"] ++ wsX20 ++ (vx_atS RX2 165 "java/lang/IllegalStateException" ["java/lang/RuntimeException", "java/lang/Exception"]).filter goodWord)
def wsX2_add : List Cond := .code yX2_add cX2_add 2 (some .int) :: ([.classLink RX2 51 "java/lang/IllegalArgumentException", .initialized "java/lang/IllegalArgumentException", .classLink RX2 64 "java/lang/UnsupportedOperationException", .initialized "java/lang/UnsupportedOperationException", .fieldLink RX2 61 "StockLog" "toldCount" "I", .fieldLink RX2 34 "StockLog" "told" "LStockLog$Cells;", .methodLink RX2 58 yX2_refuseWhenDown, .instanceMethod yX2_refuseWhenDown, .selects RX2 yX2_refuseWhenDown yX2_refuseWhenDown, .initialized RX2, .code yX2_refuseWhenDown cX2_refuseWhenDown 1 none, .classLink RX2 161 "java/lang/IllegalStateException", .initialized "java/lang/IllegalStateException", .fieldLink RX2 47 "StockLog" "up" "Z", .methodLink RX2 69 yX0_set, .instanceMethod yX0_set, .selects RX0 yX0_set yX0_set, .initialized RX0, .code yX0_set cX0_set 3 none, .fieldLink RX0 15 "StockLog$Cells" "cells" "[I"] ++ wsX20 ++ wsX00 ++ (vx_atS RX2 55 "java/lang/IllegalArgumentException" ["java/lang/RuntimeException", "java/lang/Exception"]).filter goodWord ++ (vx_atS RX2 68 "java/lang/UnsupportedOperationException" ["java/lang/RuntimeException", "java/lang/Exception"]).filter goodWord ++ (vx_atS RX2 165 "java/lang/IllegalStateException" ["java/lang/RuntimeException", "java/lang/Exception"]).filter goodWord)
def wsX2_refuseOtherKind : List Cond := .code yX2_refuseOtherKind cX2_refuseOtherKind 2 none :: ([.classLink RX2 51 "java/lang/IllegalArgumentException", .initialized "java/lang/IllegalArgumentException", .methodLink RX2 175 yX2_isKind, .static yX2_isKind, .initialized RX2, .code yX2_isKind cX2_isKind 1 (some .boolean)] ++ (vx_atS RX2 55 "java/lang/IllegalArgumentException" ["java/lang/RuntimeException", "java/lang/Exception"]).filter goodWord)
def wsX2_refuseWhenFull : List Cond := .code yX2_refuseWhenFull cX2_refuseWhenFull 2 none :: ([.classLink RX2 64 "java/lang/UnsupportedOperationException", .initialized "java/lang/UnsupportedOperationException", .fieldLink RX2 40 "StockLog" "rows" "LStockLog$Rows;", .fieldLink RX2 27 "StockLog" "disk" "LStockLog$Cells;", .methodLink RX2 155 yX0_length, .instanceMethod yX0_length, .selects RX0 yX0_length yX0_length, .initialized RX0, .code yX0_length cX0_length 1 (some .int), .fieldLink RX0 15 "StockLog$Cells" "cells" "[I"] ++ wsX20 ++ wsX10 ++ wsX00 ++ (vx_atS RX2 68 "java/lang/UnsupportedOperationException" ["java/lang/RuntimeException", "java/lang/Exception"]).filter goodWord)
def wsX2_end_r1 : List Cond := [Cond.classLink RX2 51 "java/lang/IllegalArgumentException", Cond.initialized "java/lang/IllegalArgumentException", Cond.fieldLink RX2 61 "StockLog" "toldCount" "I", Cond.fieldLink RX2 40 "StockLog" "rows" "LStockLog$Rows;", Cond.fieldLink RX2 34 "StockLog" "told" "LStockLog$Cells;", Cond.methodLink RX2 75 yX2_refuseOtherKind, Cond.instanceMethod yX2_refuseOtherKind, Cond.selects RX2 yX2_refuseOtherKind yX2_refuseOtherKind, Cond.initialized RX2, Cond.code yX2_refuseOtherKind cX2_refuseOtherKind 2 none, Cond.methodLink RX2 175 yX2_isKind, Cond.static yX2_isKind, Cond.code yX2_isKind cX2_isKind 1 (some .boolean), Cond.methodLink RX2 58 yX2_refuseWhenDown, Cond.instanceMethod yX2_refuseWhenDown, Cond.selects RX2 yX2_refuseWhenDown yX2_refuseWhenDown, Cond.code yX2_refuseWhenDown cX2_refuseWhenDown 1 none, Cond.classLink RX2 161 "java/lang/IllegalStateException", Cond.initialized "java/lang/IllegalStateException", Cond.fieldLink RX2 47 "StockLog" "up" "Z", Cond.methodLink RX2 78 yX2_refuseWhenFull, Cond.instanceMethod yX2_refuseWhenFull, Cond.selects RX2 yX2_refuseWhenFull yX2_refuseWhenFull, Cond.code yX2_refuseWhenFull cX2_refuseWhenFull 2 none]
def wsX2_end_r2 : List Cond := [Cond.classLink RX2 64 "java/lang/UnsupportedOperationException", Cond.initialized "java/lang/UnsupportedOperationException", Cond.fieldLink RX2 27 "StockLog" "disk" "LStockLog$Cells;", Cond.methodLink RX2 155 yX0_length, Cond.instanceMethod yX0_length, Cond.selects RX0 yX0_length yX0_length, Cond.initialized RX0, Cond.code yX0_length cX0_length 1 (some .int), Cond.fieldLink RX0 15 "StockLog$Cells" "cells" "[I", Cond.methodLink RX2 81 yX1_write, Cond.instanceMethod yX1_write, Cond.selects RX1 yX1_write yX1_write, Cond.initialized RX1, Cond.code yX1_write cX1_write 5 (some .int), Cond.fieldLink RX1 14 "StockLog$Rows" "image" "LStockLog$Cells;", Cond.fieldLink RX1 47 "StockLog$Rows" "used" "I", Cond.fieldLink RX1 29 "StockLog$Rows" "last" "I", Cond.methodLink RX1 53 yX0_set, Cond.instanceMethod yX0_set, Cond.selects RX0 yX0_set yX0_set, Cond.code yX0_set cX0_set 3 none, Cond.methodLink RX1 57 yX0_setNumber, Cond.instanceMethod yX0_setNumber, Cond.selects RX0 yX0_setNumber yX0_setNumber]
def wsX2_end_r3 : List Cond := [Cond.code yX0_setNumber cX0_setNumber 6 none, Cond.methodLink RX0 25 yX0_set, Cond.methodLink RX1 33 yX0_at, Cond.instanceMethod yX0_at, Cond.selects RX0 yX0_at yX0_at, Cond.code yX0_at cX0_at 2 (some .int), Cond.static yX2_sumOfRow, Cond.code yX2_sumOfRow cX2_sumOfRow 7 (some .int), Cond.constant RX2 201 (-2048144777), Cond.methodLink RX2 115 yX0_at, Cond.methodLink RX1 65 yX1_enlistNext, Cond.instanceMethod yX1_enlistNext, Cond.selects RX1 yX1_enlistNext yX1_enlistNext, Cond.code yX1_enlistNext cX1_enlistNext 2 none, Cond.fieldLink RX1 20 "StockLog$Rows" "starts" "LStockLog$Cells;", Cond.fieldLink RX1 23 "StockLog$Rows" "ofKind" "LStockLog$Cells;", Cond.methodLink RX1 44 yX1_kindOf, Cond.instanceMethod yX1_kindOf, Cond.selects RX1 yX1_kindOf yX1_kindOf, Cond.code yX1_kindOf cX1_kindOf 2 (some .int), Cond.methodLink RX1 37 yX1_lengthOf, Cond.instanceMethod yX1_lengthOf, Cond.selects RX1 yX1_lengthOf yX1_lengthOf, Cond.code yX1_lengthOf cX1_lengthOf 2 (some .int)]
def wsX2_end : List Cond := .code yX2_end cX2_end 3 (some .int) :: ((wsX2_end_r1 ++ (wsX2_end_r2 ++ wsX2_end_r3)) ++ wsX20 ++ wsX10 ++ wsX00 ++ (vx_atS RX2 55 "java/lang/IllegalArgumentException" ["java/lang/RuntimeException", "java/lang/Exception"]).filter goodWord ++ (vx_atS RX2 165 "java/lang/IllegalStateException" ["java/lang/RuntimeException", "java/lang/Exception"]).filter goodWord ++ (vx_atS RX2 68 "java/lang/UnsupportedOperationException" ["java/lang/RuntimeException", "java/lang/Exception"]).filter goodWord)
def wsX2_whole_r1 : List Cond := [Cond.fieldLink RX2 40 "StockLog" "rows" "LStockLog$Rows;", Cond.methodLink RX2 58 yX2_refuseWhenDown, Cond.instanceMethod yX2_refuseWhenDown, Cond.selects RX2 yX2_refuseWhenDown yX2_refuseWhenDown, Cond.initialized RX2, Cond.code yX2_refuseWhenDown cX2_refuseWhenDown 1 none, Cond.classLink RX2 161 "java/lang/IllegalStateException", Cond.initialized "java/lang/IllegalStateException", Cond.fieldLink RX2 47 "StockLog" "up" "Z", Cond.methodLink RX2 78 yX2_refuseWhenFull, Cond.instanceMethod yX2_refuseWhenFull, Cond.selects RX2 yX2_refuseWhenFull yX2_refuseWhenFull, Cond.code yX2_refuseWhenFull cX2_refuseWhenFull 2 none, Cond.classLink RX2 64 "java/lang/UnsupportedOperationException", Cond.initialized "java/lang/UnsupportedOperationException", Cond.fieldLink RX2 27 "StockLog" "disk" "LStockLog$Cells;", Cond.methodLink RX2 155 yX0_length, Cond.instanceMethod yX0_length, Cond.selects RX0 yX0_length yX0_length, Cond.initialized RX0, Cond.code yX0_length cX0_length 1 (some .int), Cond.fieldLink RX0 15 "StockLog$Cells" "cells" "[I", Cond.methodLink RX2 85 yX1_writeState, Cond.instanceMethod yX1_writeState]
def wsX2_whole_r2 : List Cond := [Cond.selects RX1 yX1_writeState yX1_writeState, Cond.initialized RX1, Cond.code yX1_writeState cX1_writeState 1 (some .int), Cond.fieldLink RX1 26 "StockLog$Rows" "state" "LStockLog$Cells;", Cond.methodLink RX1 68 yX1_fillState, Cond.instanceMethod yX1_fillState, Cond.selects RX1 yX1_fillState yX1_fillState, Cond.code yX1_fillState cX1_fillState 2 none, Cond.fieldLink RX1 23 "StockLog$Rows" "ofKind" "LStockLog$Cells;", Cond.methodLink RX1 33 yX0_at, Cond.instanceMethod yX0_at, Cond.selects RX0 yX0_at yX0_at, Cond.code yX0_at cX0_at 2 (some .int), Cond.methodLink RX1 57 yX0_setNumber, Cond.instanceMethod yX0_setNumber, Cond.selects RX0 yX0_setNumber yX0_setNumber, Cond.code yX0_setNumber cX0_setNumber 6 none, Cond.methodLink RX0 25 yX0_set, Cond.instanceMethod yX0_set, Cond.selects RX0 yX0_set yX0_set, Cond.code yX0_set cX0_set 3 none, Cond.methodLink RX1 71 yX1_write, Cond.instanceMethod yX1_write, Cond.selects RX1 yX1_write yX1_write]
def wsX2_whole_r3 : List Cond := [Cond.code yX1_write cX1_write 5 (some .int), Cond.fieldLink RX1 14 "StockLog$Rows" "image" "LStockLog$Cells;", Cond.fieldLink RX1 47 "StockLog$Rows" "used" "I", Cond.fieldLink RX1 29 "StockLog$Rows" "last" "I", Cond.methodLink RX1 53 yX0_set, Cond.static yX2_sumOfRow, Cond.code yX2_sumOfRow cX2_sumOfRow 7 (some .int), Cond.constant RX2 201 (-2048144777), Cond.methodLink RX2 115 yX0_at, Cond.methodLink RX1 65 yX1_enlistNext, Cond.instanceMethod yX1_enlistNext, Cond.selects RX1 yX1_enlistNext yX1_enlistNext, Cond.code yX1_enlistNext cX1_enlistNext 2 none, Cond.fieldLink RX1 20 "StockLog$Rows" "starts" "LStockLog$Cells;", Cond.methodLink RX1 44 yX1_kindOf, Cond.instanceMethod yX1_kindOf, Cond.selects RX1 yX1_kindOf yX1_kindOf, Cond.code yX1_kindOf cX1_kindOf 2 (some .int), Cond.methodLink RX1 37 yX1_lengthOf, Cond.instanceMethod yX1_lengthOf, Cond.selects RX1 yX1_lengthOf yX1_lengthOf, Cond.code yX1_lengthOf cX1_lengthOf 2 (some .int)]
def wsX2_whole : List Cond := .code yX2_whole cX2_whole 1 (some .int) :: ((wsX2_whole_r1 ++ (wsX2_whole_r2 ++ wsX2_whole_r3)) ++ wsX20 ++ wsX10 ++ wsX00 ++ (vx_atS RX2 165 "java/lang/IllegalStateException" ["java/lang/RuntimeException", "java/lang/Exception"]).filter goodWord ++ (vx_atS RX2 68 "java/lang/UnsupportedOperationException" ["java/lang/RuntimeException", "java/lang/Exception"]).filter goodWord)
def wsX2_sync_r1 : List Cond := [Cond.fieldLink RX2 40 "StockLog" "rows" "LStockLog$Rows;", Cond.fieldLink RX2 27 "StockLog" "disk" "LStockLog$Cells;", Cond.methodLink RX2 58 yX2_refuseWhenDown, Cond.instanceMethod yX2_refuseWhenDown, Cond.selects RX2 yX2_refuseWhenDown yX2_refuseWhenDown, Cond.initialized RX2, Cond.code yX2_refuseWhenDown cX2_refuseWhenDown 1 none, Cond.classLink RX2 161 "java/lang/IllegalStateException", Cond.initialized "java/lang/IllegalStateException", Cond.fieldLink RX2 47 "StockLog" "up" "Z", Cond.methodLink RX2 101 yX0_copy, Cond.instanceMethod yX0_copy, Cond.selects RX0 yX0_copy yX0_copy, Cond.initialized RX0, Cond.code yX0_copy cX0_copy 5 none, Cond.methodLink RX0 21 yX0_at, Cond.instanceMethod yX0_at, Cond.selects RX0 yX0_at yX0_at, Cond.code yX0_at cX0_at 2 (some .int), Cond.fieldLink RX0 15 "StockLog$Cells" "cells" "[I", Cond.methodLink RX0 25 yX0_set, Cond.instanceMethod yX0_set, Cond.selects RX0 yX0_set yX0_set, Cond.code yX0_set cX0_set 3 none]
def wsX2_sync_r2 : List Cond := [Cond.methodLink RX2 105 yX1_markAllOnDisk, Cond.instanceMethod yX1_markAllOnDisk, Cond.selects RX1 yX1_markAllOnDisk yX1_markAllOnDisk, Cond.initialized RX1, Cond.code yX1_markAllOnDisk cX1_markAllOnDisk 1 none, Cond.fieldLink RX1 29 "StockLog$Rows" "last" "I", Cond.fieldLink RX1 75 "StockLog$Rows" "lastOnDisk" "I", Cond.fieldLink RX1 47 "StockLog$Rows" "used" "I", Cond.fieldLink RX1 50 "StockLog$Rows" "usedOnDisk" "I"]
def wsX2_sync : List Cond := .code yX2_sync cX2_sync 2 (some .int) :: ((wsX2_sync_r1 ++ wsX2_sync_r2) ++ wsX20 ++ wsX10 ++ wsX00 ++ (vx_atS RX2 165 "java/lang/IllegalStateException" ["java/lang/RuntimeException", "java/lang/Exception"]).filter goodWord)
def wsX2_cut_r1 : List Cond := [Cond.classLink RX2 51 "java/lang/IllegalArgumentException", Cond.initialized "java/lang/IllegalArgumentException", Cond.fieldLink RX2 40 "StockLog" "rows" "LStockLog$Rows;", Cond.fieldLink RX2 27 "StockLog" "disk" "LStockLog$Cells;", Cond.fieldLink RX2 61 "StockLog" "toldCount" "I", Cond.fieldLink RX2 47 "StockLog" "up" "Z", Cond.methodLink RX2 108 yX1_bytesInMemory, Cond.instanceMethod yX1_bytesInMemory, Cond.selects RX1 yX1_bytesInMemory yX1_bytesInMemory, Cond.initialized RX1, Cond.code yX1_bytesInMemory cX1_bytesInMemory 1 (some .int), Cond.fieldLink RX1 47 "StockLog$Rows" "used" "I", Cond.fieldLink RX1 50 "StockLog$Rows" "usedOnDisk" "I", Cond.methodLink RX2 58 yX2_refuseWhenDown, Cond.instanceMethod yX2_refuseWhenDown, Cond.selects RX2 yX2_refuseWhenDown yX2_refuseWhenDown, Cond.initialized RX2, Cond.code yX2_refuseWhenDown cX2_refuseWhenDown 1 none, Cond.classLink RX2 161 "java/lang/IllegalStateException", Cond.initialized "java/lang/IllegalStateException", Cond.methodLink RX2 101 yX0_copy, Cond.instanceMethod yX0_copy, Cond.selects RX0 yX0_copy yX0_copy, Cond.initialized RX0]
def wsX2_cut_r2 : List Cond := [Cond.code yX0_copy cX0_copy 5 none, Cond.methodLink RX0 21 yX0_at, Cond.instanceMethod yX0_at, Cond.selects RX0 yX0_at yX0_at, Cond.code yX0_at cX0_at 2 (some .int), Cond.fieldLink RX0 15 "StockLog$Cells" "cells" "[I", Cond.methodLink RX0 25 yX0_set, Cond.instanceMethod yX0_set, Cond.selects RX0 yX0_set yX0_set, Cond.code yX0_set cX0_set 3 none, Cond.methodLink RX2 115 yX0_at, Cond.methodLink RX2 69 yX0_set, Cond.methodLink RX2 119 yX1_dropMemory, Cond.instanceMethod yX1_dropMemory, Cond.selects RX1 yX1_dropMemory yX1_dropMemory, Cond.code yX1_dropMemory cX1_dropMemory 3 none, Cond.fieldLink RX1 75 "StockLog$Rows" "lastOnDisk" "I", Cond.fieldLink RX1 29 "StockLog$Rows" "last" "I", Cond.fieldLink RX1 23 "StockLog$Rows" "ofKind" "LStockLog$Cells;", Cond.methodLink RX1 44 yX1_kindOf, Cond.instanceMethod yX1_kindOf, Cond.selects RX1 yX1_kindOf yX1_kindOf, Cond.code yX1_kindOf cX1_kindOf 2 (some .int), Cond.fieldLink RX1 14 "StockLog$Rows" "image" "LStockLog$Cells;"]
def wsX2_cut_r3 : List Cond := [Cond.fieldLink RX1 20 "StockLog$Rows" "starts" "LStockLog$Cells;", Cond.methodLink RX1 33 yX0_at, Cond.methodLink RX1 53 yX0_set]
def wsX2_cut : List Cond := .code yX2_cut cX2_cut 4 none :: ((wsX2_cut_r1 ++ (wsX2_cut_r2 ++ wsX2_cut_r3)) ++ wsX20 ++ wsX10 ++ wsX00 ++ (vx_atS RX2 55 "java/lang/IllegalArgumentException" ["java/lang/RuntimeException", "java/lang/Exception"]).filter goodWord ++ (vx_atS RX2 165 "java/lang/IllegalStateException" ["java/lang/RuntimeException", "java/lang/Exception"]).filter goodWord)
def wsX2_readDisk_r1 : List Cond := [Cond.fieldLink RX2 61 "StockLog" "toldCount" "I", Cond.fieldLink RX2 40 "StockLog" "rows" "LStockLog$Rows;", Cond.fieldLink RX2 27 "StockLog" "disk" "LStockLog$Cells;", Cond.fieldLink RX2 44 "StockLog" "foundBehind" "I", Cond.fieldLink RX2 47 "StockLog" "up" "Z", Cond.methodLink RX2 194 yX1_clear, Cond.instanceMethod yX1_clear, Cond.selects RX1 yX1_clear yX1_clear, Cond.initialized RX1, Cond.code yX1_clear cX1_clear 1 none, Cond.fieldLink RX1 75 "StockLog$Rows" "lastOnDisk" "I", Cond.fieldLink RX1 50 "StockLog$Rows" "usedOnDisk" "I", Cond.methodLink RX1 78 yX1_dropMemory, Cond.instanceMethod yX1_dropMemory, Cond.selects RX1 yX1_dropMemory yX1_dropMemory, Cond.code yX1_dropMemory cX1_dropMemory 3 none, Cond.fieldLink RX1 29 "StockLog$Rows" "last" "I", Cond.fieldLink RX1 23 "StockLog$Rows" "ofKind" "LStockLog$Cells;", Cond.fieldLink RX1 47 "StockLog$Rows" "used" "I", Cond.methodLink RX1 44 yX1_kindOf, Cond.instanceMethod yX1_kindOf, Cond.selects RX1 yX1_kindOf yX1_kindOf, Cond.code yX1_kindOf cX1_kindOf 2 (some .int), Cond.fieldLink RX1 14 "StockLog$Rows" "image" "LStockLog$Cells;"]
def wsX2_readDisk_r2 : List Cond := [Cond.fieldLink RX1 20 "StockLog$Rows" "starts" "LStockLog$Cells;", Cond.methodLink RX1 33 yX0_at, Cond.instanceMethod yX0_at, Cond.selects RX0 yX0_at yX0_at, Cond.initialized RX0, Cond.code yX0_at cX0_at 2 (some .int), Cond.fieldLink RX0 15 "StockLog$Cells" "cells" "[I", Cond.methodLink RX1 53 yX0_set, Cond.instanceMethod yX0_set, Cond.selects RX0 yX0_set yX0_set, Cond.code yX0_set cX0_set 3 none, Cond.methodLink RX2 197 yX1_read, Cond.instanceMethod yX1_read, Cond.selects RX1 yX1_read yX1_read, Cond.code yX1_read cX1_read 5 (some .int), Cond.methodLink RX1 81 yX1_judgeNext, Cond.instanceMethod yX1_judgeNext, Cond.selects RX1 yX1_judgeNext yX1_judgeNext, Cond.code yX1_judgeNext cX1_judgeNext 3 (some .int), Cond.methodLink RX1 93 yX0_isZeroFrom, Cond.instanceMethod yX0_isZeroFrom, Cond.selects RX0 yX0_isZeroFrom yX0_isZeroFrom, Cond.code yX0_isZeroFrom cX0_isZeroFrom 3 (some .boolean), Cond.methodLink RX0 21 yX0_at]
def wsX2_readDisk_r3 : List Cond := [Cond.methodLink RX1 85 yX0_length, Cond.instanceMethod yX0_length, Cond.selects RX0 yX0_length yX0_length, Cond.code yX0_length cX0_length 1 (some .int), Cond.static yX2_isKind, Cond.initialized RX2, Cond.code yX2_isKind cX2_isKind 1 (some .boolean), Cond.methodLink RX1 100 yX0_numberAt, Cond.instanceMethod yX0_numberAt, Cond.selects RX0 yX0_numberAt yX0_numberAt, Cond.code yX0_numberAt cX0_numberAt 5 (some .int), Cond.static yX2_sumOfRow, Cond.code yX2_sumOfRow cX2_sumOfRow 7 (some .int), Cond.constant RX2 201 (-2048144777), Cond.methodLink RX2 115 yX0_at, Cond.methodLink RX1 103 yX1_isState, Cond.instanceMethod yX1_isState, Cond.selects RX1 yX1_isState yX1_isState, Cond.code yX1_isState cX1_isState 5 (some .boolean), Cond.methodLink RX1 89 yX0_copy, Cond.instanceMethod yX0_copy, Cond.selects RX0 yX0_copy yX0_copy, Cond.code yX0_copy cX0_copy 5 none, Cond.methodLink RX0 25 yX0_set]
def wsX2_readDisk_r4 : List Cond := [Cond.methodLink RX1 65 yX1_enlistNext, Cond.instanceMethod yX1_enlistNext, Cond.selects RX1 yX1_enlistNext yX1_enlistNext, Cond.code yX1_enlistNext cX1_enlistNext 2 none, Cond.methodLink RX1 37 yX1_lengthOf, Cond.instanceMethod yX1_lengthOf, Cond.selects RX1 yX1_lengthOf yX1_lengthOf, Cond.code yX1_lengthOf cX1_lengthOf 2 (some .int), Cond.methodLink RX2 105 yX1_markAllOnDisk, Cond.instanceMethod yX1_markAllOnDisk, Cond.selects RX1 yX1_markAllOnDisk yX1_markAllOnDisk, Cond.code yX1_markAllOnDisk cX1_markAllOnDisk 1 none]
def wsX2_readDisk : List Cond := .code yX2_readDisk cX2_readDisk 1 (some .int) :: ((wsX2_readDisk_r1 ++ (wsX2_readDisk_r2 ++ (wsX2_readDisk_r3 ++ wsX2_readDisk_r4))) ++ wsX20 ++ wsX10 ++ wsX00)
def wsX2_start_r1 : List Cond := [Cond.methodLink RX2 122 yX2_readDisk, Cond.instanceMethod yX2_readDisk, Cond.selects RX2 yX2_readDisk yX2_readDisk, Cond.initialized RX2, Cond.code yX2_readDisk cX2_readDisk 1 (some .int), Cond.fieldLink RX2 61 "StockLog" "toldCount" "I", Cond.fieldLink RX2 40 "StockLog" "rows" "LStockLog$Rows;", Cond.fieldLink RX2 27 "StockLog" "disk" "LStockLog$Cells;", Cond.fieldLink RX2 44 "StockLog" "foundBehind" "I", Cond.fieldLink RX2 47 "StockLog" "up" "Z", Cond.methodLink RX2 194 yX1_clear, Cond.instanceMethod yX1_clear, Cond.selects RX1 yX1_clear yX1_clear, Cond.initialized RX1, Cond.code yX1_clear cX1_clear 1 none, Cond.fieldLink RX1 75 "StockLog$Rows" "lastOnDisk" "I", Cond.fieldLink RX1 50 "StockLog$Rows" "usedOnDisk" "I", Cond.methodLink RX1 78 yX1_dropMemory, Cond.instanceMethod yX1_dropMemory, Cond.selects RX1 yX1_dropMemory yX1_dropMemory, Cond.code yX1_dropMemory cX1_dropMemory 3 none, Cond.fieldLink RX1 29 "StockLog$Rows" "last" "I", Cond.fieldLink RX1 23 "StockLog$Rows" "ofKind" "LStockLog$Cells;", Cond.fieldLink RX1 47 "StockLog$Rows" "used" "I"]
def wsX2_start_r2 : List Cond := [Cond.methodLink RX1 44 yX1_kindOf, Cond.instanceMethod yX1_kindOf, Cond.selects RX1 yX1_kindOf yX1_kindOf, Cond.code yX1_kindOf cX1_kindOf 2 (some .int), Cond.fieldLink RX1 14 "StockLog$Rows" "image" "LStockLog$Cells;", Cond.fieldLink RX1 20 "StockLog$Rows" "starts" "LStockLog$Cells;", Cond.methodLink RX1 33 yX0_at, Cond.instanceMethod yX0_at, Cond.selects RX0 yX0_at yX0_at, Cond.initialized RX0, Cond.code yX0_at cX0_at 2 (some .int), Cond.fieldLink RX0 15 "StockLog$Cells" "cells" "[I", Cond.methodLink RX1 53 yX0_set, Cond.instanceMethod yX0_set, Cond.selects RX0 yX0_set yX0_set, Cond.code yX0_set cX0_set 3 none, Cond.methodLink RX2 197 yX1_read, Cond.instanceMethod yX1_read, Cond.selects RX1 yX1_read yX1_read, Cond.code yX1_read cX1_read 5 (some .int), Cond.methodLink RX1 81 yX1_judgeNext, Cond.instanceMethod yX1_judgeNext, Cond.selects RX1 yX1_judgeNext yX1_judgeNext, Cond.code yX1_judgeNext cX1_judgeNext 3 (some .int)]
def wsX2_start_r3 : List Cond := [Cond.methodLink RX1 93 yX0_isZeroFrom, Cond.instanceMethod yX0_isZeroFrom, Cond.selects RX0 yX0_isZeroFrom yX0_isZeroFrom, Cond.code yX0_isZeroFrom cX0_isZeroFrom 3 (some .boolean), Cond.methodLink RX0 21 yX0_at, Cond.methodLink RX1 85 yX0_length, Cond.instanceMethod yX0_length, Cond.selects RX0 yX0_length yX0_length, Cond.code yX0_length cX0_length 1 (some .int), Cond.static yX2_isKind, Cond.code yX2_isKind cX2_isKind 1 (some .boolean), Cond.methodLink RX1 100 yX0_numberAt, Cond.instanceMethod yX0_numberAt, Cond.selects RX0 yX0_numberAt yX0_numberAt, Cond.code yX0_numberAt cX0_numberAt 5 (some .int), Cond.static yX2_sumOfRow, Cond.code yX2_sumOfRow cX2_sumOfRow 7 (some .int), Cond.constant RX2 201 (-2048144777), Cond.methodLink RX2 115 yX0_at, Cond.methodLink RX1 103 yX1_isState, Cond.instanceMethod yX1_isState, Cond.selects RX1 yX1_isState yX1_isState, Cond.code yX1_isState cX1_isState 5 (some .boolean), Cond.methodLink RX1 89 yX0_copy]
def wsX2_start_r4 : List Cond := [Cond.instanceMethod yX0_copy, Cond.selects RX0 yX0_copy yX0_copy, Cond.code yX0_copy cX0_copy 5 none, Cond.methodLink RX0 25 yX0_set, Cond.methodLink RX1 65 yX1_enlistNext, Cond.instanceMethod yX1_enlistNext, Cond.selects RX1 yX1_enlistNext yX1_enlistNext, Cond.code yX1_enlistNext cX1_enlistNext 2 none, Cond.methodLink RX1 37 yX1_lengthOf, Cond.instanceMethod yX1_lengthOf, Cond.selects RX1 yX1_lengthOf yX1_lengthOf, Cond.code yX1_lengthOf cX1_lengthOf 2 (some .int), Cond.methodLink RX2 105 yX1_markAllOnDisk, Cond.instanceMethod yX1_markAllOnDisk, Cond.selects RX1 yX1_markAllOnDisk yX1_markAllOnDisk, Cond.code yX1_markAllOnDisk cX1_markAllOnDisk 1 none]
def wsX2_start : List Cond := .code yX2_start cX2_start 1 (some .int) :: ((wsX2_start_r1 ++ (wsX2_start_r2 ++ (wsX2_start_r3 ++ wsX2_start_r4))) ++ wsX20 ++ wsX10 ++ wsX00)
def wsX2_placeOf : List Cond := .code yX2_placeOf cX2_placeOf 3 (some .int) :: ([.fieldLink RX2 18 "StockLog" "sectors" "I", .classLink RX2 184 RJx00060, .instantiable RJx00060 6, .initialized RJx00060] ++ wsX20 ++ wsJx000600)
def wsX2_poke : List Cond := .code yX2_poke cX2_poke 5 (some .int) :: ([.classLink RX2 51 "java/lang/IllegalArgumentException", .initialized "java/lang/IllegalArgumentException", .fieldLink RX2 27 "StockLog" "disk" "LStockLog$Cells;", .methodLink RX2 127 yX2_placeOf, .instanceMethod yX2_placeOf, .selects RX2 yX2_placeOf yX2_placeOf, .initialized RX2, .code yX2_placeOf cX2_placeOf 3 (some .int), .fieldLink RX2 18 "StockLog" "sectors" "I", .classLink RX2 184 RJx00060, .instantiable RJx00060 6, .initialized RJx00060, .methodLink RX2 115 yX0_at, .instanceMethod yX0_at, .selects RX0 yX0_at yX0_at, .initialized RX0, .code yX0_at cX0_at 2 (some .int), .fieldLink RX0 15 "StockLog$Cells" "cells" "[I", .methodLink RX2 69 yX0_set, .instanceMethod yX0_set, .selects RX0 yX0_set yX0_set, .code yX0_set cX0_set 3 none] ++ wsX20 ++ wsJx000600 ++ wsX00 ++ (vx_atS RX2 55 "java/lang/IllegalArgumentException" ["java/lang/RuntimeException", "java/lang/Exception"]).filter goodWord)
def wsX2_byteOf : List Cond := .code yX2_byteOf cX2_byteOf 3 (some .int) :: ([.fieldLink RX2 27 "StockLog" "disk" "LStockLog$Cells;", .methodLink RX2 127 yX2_placeOf, .instanceMethod yX2_placeOf, .selects RX2 yX2_placeOf yX2_placeOf, .initialized RX2, .code yX2_placeOf cX2_placeOf 3 (some .int), .fieldLink RX2 18 "StockLog" "sectors" "I", .classLink RX2 184 RJx00060, .instantiable RJx00060 6, .initialized RJx00060, .methodLink RX2 115 yX0_at, .instanceMethod yX0_at, .selects RX0 yX0_at yX0_at, .initialized RX0, .code yX0_at cX0_at 2 (some .int), .fieldLink RX0 15 "StockLog$Cells" "cells" "[I"] ++ wsX20 ++ wsJx000600 ++ wsX00)
def wsX2_byteOfRow : List Cond := .code yX2_byteOfRow cX2_byteOfRow 3 (some .int) :: ([.classLink RX2 134 "java/util/NoSuchElementException", .initialized "java/util/NoSuchElementException", .fieldLink RX2 40 "StockLog" "rows" "LStockLog$Rows;", .methodLink RX2 145 yX1_lengthOf, .instanceMethod yX1_lengthOf, .selects RX1 yX1_lengthOf yX1_lengthOf, .initialized RX1, .code yX1_lengthOf cX1_lengthOf 2 (some .int), .fieldLink RX1 14 "StockLog$Rows" "image" "LStockLog$Cells;", .fieldLink RX1 20 "StockLog$Rows" "starts" "LStockLog$Cells;", .methodLink RX1 33 yX0_at, .instanceMethod yX0_at, .selects RX0 yX0_at yX0_at, .initialized RX0, .code yX0_at cX0_at 2 (some .int), .fieldLink RX0 15 "StockLog$Cells" "cells" "[I", .methodLink RX2 191 yX1_byteAt, .instanceMethod yX1_byteAt, .selects RX1 yX1_byteAt yX1_byteAt, .code yX1_byteAt cX1_byteAt 3 (some .int)] ++ wsX20 ++ wsX10 ++ wsX00 ++ (vx_atS RX2 138 "java/util/NoSuchElementException" ["java/lang/RuntimeException", "java/lang/Exception"]).filter goodWord)
def wsX2_row_r1 : List Cond := [Cond.classLink RX2 134 "java/util/NoSuchElementException", Cond.initialized "java/util/NoSuchElementException", Cond.classLink RX2 51 "java/lang/IllegalArgumentException", Cond.initialized "java/lang/IllegalArgumentException", Cond.fieldLink RX2 40 "StockLog" "rows" "LStockLog$Rows;", Cond.methodLink RX2 130 yX1_has, Cond.instanceMethod yX1_has, Cond.selects RX1 yX1_has yX1_has, Cond.initialized RX1, Cond.code yX1_has cX1_has 2 (some .boolean), Cond.fieldLink RX1 29 "StockLog$Rows" "last" "I", Cond.methodLink RX2 139 yX2_byteOfRow, Cond.instanceMethod yX2_byteOfRow, Cond.selects RX2 yX2_byteOfRow yX2_byteOfRow, Cond.initialized RX2, Cond.code yX2_byteOfRow cX2_byteOfRow 3 (some .int), Cond.methodLink RX2 145 yX1_lengthOf, Cond.instanceMethod yX1_lengthOf, Cond.selects RX1 yX1_lengthOf yX1_lengthOf, Cond.code yX1_lengthOf cX1_lengthOf 2 (some .int), Cond.fieldLink RX1 14 "StockLog$Rows" "image" "LStockLog$Cells;", Cond.fieldLink RX1 20 "StockLog$Rows" "starts" "LStockLog$Cells;", Cond.methodLink RX1 33 yX0_at, Cond.instanceMethod yX0_at]
def wsX2_row_r2 : List Cond := [Cond.selects RX0 yX0_at yX0_at, Cond.initialized RX0, Cond.code yX0_at cX0_at 2 (some .int), Cond.fieldLink RX0 15 "StockLog$Cells" "cells" "[I", Cond.methodLink RX2 191 yX1_byteAt, Cond.instanceMethod yX1_byteAt, Cond.selects RX1 yX1_byteAt yX1_byteAt, Cond.code yX1_byteAt cX1_byteAt 3 (some .int), Cond.methodLink RX2 142 yX1_kindOf, Cond.instanceMethod yX1_kindOf, Cond.selects RX1 yX1_kindOf yX1_kindOf, Cond.code yX1_kindOf cX1_kindOf 2 (some .int)]
def wsX2_row : List Cond := .code yX2_row cX2_row 3 (some .int) :: ((wsX2_row_r1 ++ wsX2_row_r2) ++ wsX20 ++ wsX10 ++ wsX00 ++ (vx_atS RX2 138 "java/util/NoSuchElementException" ["java/lang/RuntimeException", "java/lang/Exception"]).filter goodWord ++ (vx_atS RX2 55 "java/lang/IllegalArgumentException" ["java/lang/RuntimeException", "java/lang/Exception"]).filter goodWord)
def wsX2_find_r1 : List Cond := [Cond.classLink RX2 51 "java/lang/IllegalArgumentException", Cond.initialized "java/lang/IllegalArgumentException", Cond.fieldLink RX2 40 "StockLog" "rows" "LStockLog$Rows;", Cond.methodLink RX2 75 yX2_refuseOtherKind, Cond.instanceMethod yX2_refuseOtherKind, Cond.selects RX2 yX2_refuseOtherKind yX2_refuseOtherKind, Cond.initialized RX2, Cond.code yX2_refuseOtherKind cX2_refuseOtherKind 2 none, Cond.methodLink RX2 175 yX2_isKind, Cond.static yX2_isKind, Cond.code yX2_isKind cX2_isKind 1 (some .boolean), Cond.methodLink RX2 152 yX1_numberOf, Cond.instanceMethod yX1_numberOf, Cond.selects RX1 yX1_numberOf yX1_numberOf, Cond.initialized RX1, Cond.code yX1_numberOf cX1_numberOf 5 (some .int), Cond.fieldLink RX1 29 "StockLog$Rows" "last" "I", Cond.methodLink RX1 44 yX1_kindOf, Cond.instanceMethod yX1_kindOf, Cond.selects RX1 yX1_kindOf yX1_kindOf, Cond.code yX1_kindOf cX1_kindOf 2 (some .int), Cond.fieldLink RX1 14 "StockLog$Rows" "image" "LStockLog$Cells;", Cond.fieldLink RX1 20 "StockLog$Rows" "starts" "LStockLog$Cells;", Cond.methodLink RX1 33 yX0_at]
def wsX2_find_r2 : List Cond := [Cond.instanceMethod yX0_at, Cond.selects RX0 yX0_at yX0_at, Cond.initialized RX0, Cond.code yX0_at cX0_at 2 (some .int), Cond.fieldLink RX0 15 "StockLog$Cells" "cells" "[I"]
def wsX2_find : List Cond := .code yX2_find cX2_find 3 (some .int) :: ((wsX2_find_r1 ++ wsX2_find_r2) ++ wsX20 ++ wsX10 ++ wsX00 ++ (vx_atS RX2 55 "java/lang/IllegalArgumentException" ["java/lang/RuntimeException", "java/lang/Exception"]).filter goodWord)
def wsX2_wrong : List Cond := .code yX2_wrong cX2_wrong 1 (some .int) :: ([.fieldLink RX2 44 "StockLog" "foundBehind" "I"] ++ wsX20)
def wsX2_backup_r1 : List Cond := [Cond.fieldLink RX2 31 "StockLog" "kept" "LStockLog$Cells;", Cond.fieldLink RX2 27 "StockLog" "disk" "LStockLog$Cells;", Cond.fieldLink RX2 158 "StockLog" "hasBackup" "Z", Cond.fieldLink RX2 40 "StockLog" "rows" "LStockLog$Rows;", Cond.methodLink RX2 58 yX2_refuseWhenDown, Cond.instanceMethod yX2_refuseWhenDown, Cond.selects RX2 yX2_refuseWhenDown yX2_refuseWhenDown, Cond.initialized RX2, Cond.code yX2_refuseWhenDown cX2_refuseWhenDown 1 none, Cond.classLink RX2 161 "java/lang/IllegalStateException", Cond.initialized "java/lang/IllegalStateException", Cond.fieldLink RX2 47 "StockLog" "up" "Z", Cond.methodLink RX2 155 yX0_length, Cond.instanceMethod yX0_length, Cond.selects RX0 yX0_length yX0_length, Cond.initialized RX0, Cond.code yX0_length cX0_length 1 (some .int), Cond.fieldLink RX0 15 "StockLog$Cells" "cells" "[I", Cond.methodLink RX2 101 yX0_copy, Cond.instanceMethod yX0_copy, Cond.selects RX0 yX0_copy yX0_copy, Cond.code yX0_copy cX0_copy 5 none, Cond.methodLink RX0 21 yX0_at, Cond.instanceMethod yX0_at]
def wsX2_backup_r2 : List Cond := [Cond.selects RX0 yX0_at yX0_at, Cond.code yX0_at cX0_at 2 (some .int), Cond.methodLink RX0 25 yX0_set, Cond.instanceMethod yX0_set, Cond.selects RX0 yX0_set yX0_set, Cond.code yX0_set cX0_set 3 none]
def wsX2_backup : List Cond := .code yX2_backup cX2_backup 1 (some .int) :: ((wsX2_backup_r1 ++ wsX2_backup_r2) ++ wsX20 ++ wsX10 ++ wsX00 ++ (vx_atS RX2 165 "java/lang/IllegalStateException" ["java/lang/RuntimeException", "java/lang/Exception"]).filter goodWord)
def wsX2_restore_r1 : List Cond := [Cond.classLink RX2 161 "java/lang/IllegalStateException", Cond.initialized "java/lang/IllegalStateException", Cond.fieldLink RX2 158 "StockLog" "hasBackup" "Z", Cond.fieldLink RX2 27 "StockLog" "disk" "LStockLog$Cells;", Cond.fieldLink RX2 31 "StockLog" "kept" "LStockLog$Cells;", Cond.methodLink RX2 155 yX0_length, Cond.instanceMethod yX0_length, Cond.selects RX0 yX0_length yX0_length, Cond.initialized RX0, Cond.code yX0_length cX0_length 1 (some .int), Cond.fieldLink RX0 15 "StockLog$Cells" "cells" "[I", Cond.methodLink RX2 101 yX0_copy, Cond.instanceMethod yX0_copy, Cond.selects RX0 yX0_copy yX0_copy, Cond.code yX0_copy cX0_copy 5 none, Cond.methodLink RX0 21 yX0_at, Cond.instanceMethod yX0_at, Cond.selects RX0 yX0_at yX0_at, Cond.code yX0_at cX0_at 2 (some .int), Cond.methodLink RX0 25 yX0_set, Cond.instanceMethod yX0_set, Cond.selects RX0 yX0_set yX0_set, Cond.code yX0_set cX0_set 3 none, Cond.methodLink RX2 122 yX2_readDisk]
def wsX2_restore_r2 : List Cond := [Cond.instanceMethod yX2_readDisk, Cond.selects RX2 yX2_readDisk yX2_readDisk, Cond.initialized RX2, Cond.code yX2_readDisk cX2_readDisk 1 (some .int), Cond.fieldLink RX2 61 "StockLog" "toldCount" "I", Cond.fieldLink RX2 40 "StockLog" "rows" "LStockLog$Rows;", Cond.fieldLink RX2 44 "StockLog" "foundBehind" "I", Cond.fieldLink RX2 47 "StockLog" "up" "Z", Cond.methodLink RX2 194 yX1_clear, Cond.instanceMethod yX1_clear, Cond.selects RX1 yX1_clear yX1_clear, Cond.initialized RX1, Cond.code yX1_clear cX1_clear 1 none, Cond.fieldLink RX1 75 "StockLog$Rows" "lastOnDisk" "I", Cond.fieldLink RX1 50 "StockLog$Rows" "usedOnDisk" "I", Cond.methodLink RX1 78 yX1_dropMemory, Cond.instanceMethod yX1_dropMemory, Cond.selects RX1 yX1_dropMemory yX1_dropMemory, Cond.code yX1_dropMemory cX1_dropMemory 3 none, Cond.fieldLink RX1 29 "StockLog$Rows" "last" "I", Cond.fieldLink RX1 23 "StockLog$Rows" "ofKind" "LStockLog$Cells;", Cond.fieldLink RX1 47 "StockLog$Rows" "used" "I", Cond.methodLink RX1 44 yX1_kindOf, Cond.instanceMethod yX1_kindOf]
def wsX2_restore_r3 : List Cond := [Cond.selects RX1 yX1_kindOf yX1_kindOf, Cond.code yX1_kindOf cX1_kindOf 2 (some .int), Cond.fieldLink RX1 14 "StockLog$Rows" "image" "LStockLog$Cells;", Cond.fieldLink RX1 20 "StockLog$Rows" "starts" "LStockLog$Cells;", Cond.methodLink RX1 33 yX0_at, Cond.methodLink RX1 53 yX0_set, Cond.methodLink RX2 197 yX1_read, Cond.instanceMethod yX1_read, Cond.selects RX1 yX1_read yX1_read, Cond.code yX1_read cX1_read 5 (some .int), Cond.methodLink RX1 81 yX1_judgeNext, Cond.instanceMethod yX1_judgeNext, Cond.selects RX1 yX1_judgeNext yX1_judgeNext, Cond.code yX1_judgeNext cX1_judgeNext 3 (some .int), Cond.methodLink RX1 93 yX0_isZeroFrom, Cond.instanceMethod yX0_isZeroFrom, Cond.selects RX0 yX0_isZeroFrom yX0_isZeroFrom, Cond.code yX0_isZeroFrom cX0_isZeroFrom 3 (some .boolean), Cond.methodLink RX1 85 yX0_length, Cond.static yX2_isKind, Cond.code yX2_isKind cX2_isKind 1 (some .boolean), Cond.methodLink RX1 100 yX0_numberAt, Cond.instanceMethod yX0_numberAt, Cond.selects RX0 yX0_numberAt yX0_numberAt]
def wsX2_restore_r4 : List Cond := [Cond.code yX0_numberAt cX0_numberAt 5 (some .int), Cond.static yX2_sumOfRow, Cond.code yX2_sumOfRow cX2_sumOfRow 7 (some .int), Cond.constant RX2 201 (-2048144777), Cond.methodLink RX2 115 yX0_at, Cond.methodLink RX1 103 yX1_isState, Cond.instanceMethod yX1_isState, Cond.selects RX1 yX1_isState yX1_isState, Cond.code yX1_isState cX1_isState 5 (some .boolean), Cond.methodLink RX1 89 yX0_copy, Cond.methodLink RX1 65 yX1_enlistNext, Cond.instanceMethod yX1_enlistNext, Cond.selects RX1 yX1_enlistNext yX1_enlistNext, Cond.code yX1_enlistNext cX1_enlistNext 2 none, Cond.methodLink RX1 37 yX1_lengthOf, Cond.instanceMethod yX1_lengthOf, Cond.selects RX1 yX1_lengthOf yX1_lengthOf, Cond.code yX1_lengthOf cX1_lengthOf 2 (some .int), Cond.methodLink RX2 105 yX1_markAllOnDisk, Cond.instanceMethod yX1_markAllOnDisk, Cond.selects RX1 yX1_markAllOnDisk yX1_markAllOnDisk, Cond.code yX1_markAllOnDisk cX1_markAllOnDisk 1 none]
def wsX2_restore : List Cond := .code yX2_restore cX2_restore 1 (some .int) :: ((wsX2_restore_r1 ++ (wsX2_restore_r2 ++ (wsX2_restore_r3 ++ wsX2_restore_r4))) ++ wsX20 ++ wsX00 ++ wsX10 ++ (vx_atS RX2 165 "java/lang/IllegalStateException" ["java/lang/RuntimeException", "java/lang/Exception"]).filter goodWord)
def wsX2_total_r1 : List Cond := [Cond.methodLink RX2 15 Lib.Math.max.name, Cond.static Lib.Math.max.name, Cond.initialized "java/lang/Math", Cond.code Lib.Math.max.name Lib.Math.max.code 2 (some .int), Cond.fieldLink RX2 40 "StockLog" "rows" "LStockLog$Rows;", Cond.methodLink RX2 9 Lib.Math.min.name, Cond.static Lib.Math.min.name, Cond.code Lib.Math.min.name Lib.Math.min.code 2 (some .int), Cond.methodLink RX2 75 yX2_refuseOtherKind, Cond.instanceMethod yX2_refuseOtherKind, Cond.selects RX2 yX2_refuseOtherKind yX2_refuseOtherKind, Cond.initialized RX2, Cond.code yX2_refuseOtherKind cX2_refuseOtherKind 2 none, Cond.classLink RX2 51 "java/lang/IllegalArgumentException", Cond.initialized "java/lang/IllegalArgumentException", Cond.methodLink RX2 175 yX2_isKind, Cond.static yX2_isKind, Cond.code yX2_isKind cX2_isKind 1 (some .boolean), Cond.methodLink RX2 142 yX1_kindOf, Cond.instanceMethod yX1_kindOf, Cond.selects RX1 yX1_kindOf yX1_kindOf, Cond.initialized RX1, Cond.code yX1_kindOf cX1_kindOf 2 (some .int), Cond.fieldLink RX1 14 "StockLog$Rows" "image" "LStockLog$Cells;"]
def wsX2_total_r2 : List Cond := [Cond.fieldLink RX1 20 "StockLog$Rows" "starts" "LStockLog$Cells;", Cond.methodLink RX1 33 yX0_at, Cond.instanceMethod yX0_at, Cond.selects RX0 yX0_at yX0_at, Cond.initialized RX0, Cond.code yX0_at cX0_at 2 (some .int), Cond.fieldLink RX0 15 "StockLog$Cells" "cells" "[I", Cond.methodLink RX2 169 yX1_sumOfBytes, Cond.instanceMethod yX1_sumOfBytes, Cond.selects RX1 yX1_sumOfBytes yX1_sumOfBytes, Cond.code yX1_sumOfBytes cX1_sumOfBytes 5 (some .int), Cond.methodLink RX1 37 yX1_lengthOf, Cond.instanceMethod yX1_lengthOf, Cond.selects RX1 yX1_lengthOf yX1_lengthOf, Cond.code yX1_lengthOf cX1_lengthOf 2 (some .int), Cond.methodLink RX1 40 yX1_byteAt, Cond.instanceMethod yX1_byteAt, Cond.selects RX1 yX1_byteAt yX1_byteAt, Cond.code yX1_byteAt cX1_byteAt 3 (some .int)]
def wsX2_total : List Cond := .code yX2_total cX2_total 8 (some .int) :: ((wsX2_total_r1 ++ wsX2_total_r2) ++ wsX20 ++ wsX10 ++ wsX00 ++ (vx_atS RX2 55 "java/lang/IllegalArgumentException" ["java/lang/RuntimeException", "java/lang/Exception"]).filter goodWord)
def wsX2_count : List Cond := .code yX2_count cX2_count 2 (some .int) :: ([.fieldLink RX2 18 "StockLog" "sectors" "I", .fieldLink RX2 40 "StockLog" "rows" "LStockLog$Rows;", .fieldLink RX2 61 "StockLog" "toldCount" "I", .fieldLink RX2 47 "StockLog" "up" "Z", .methodLink RX2 108 yX1_bytesInMemory, .instanceMethod yX1_bytesInMemory, .selects RX1 yX1_bytesInMemory yX1_bytesInMemory, .initialized RX1, .code yX1_bytesInMemory cX1_bytesInMemory 1 (some .int), .fieldLink RX1 47 "StockLog$Rows" "used" "I", .fieldLink RX1 50 "StockLog$Rows" "usedOnDisk" "I", .methodLink RX2 115 yX0_at, .instanceMethod yX0_at, .selects RX0 yX0_at yX0_at, .initialized RX0, .code yX0_at cX0_at 2 (some .int), .fieldLink RX0 15 "StockLog$Cells" "cells" "[I"] ++ wsX20 ++ wsX10 ++ wsX00)
def wsX3_init : List Cond := .code yX3_init cX3_init 2 none :: ([.methodLink RX3 1 objectInit, .instanceMethod objectInit, .code objectInit ⟨#[0xb1]⟩ 1 none, .arrayClass .int, .fieldLink RX3 7 "StockLogModel" "disk" "[I", .fieldLink RX3 13 "StockLogModel" "saved" "[I", .fieldLink RX3 16 "StockLogModel" "up" "Z", .fieldLink RX3 20 "StockLogModel" "image" "[I", .fieldLink RX3 23 "StockLogModel" "begin" "[I", .fieldLink RX3 26 "StockLogModel" "told" "[I", .fieldLink RX3 29 "StockLogModel" "size" "I"] ++ wsX30)
def wsX3_thrown : List Cond := .code yX3_thrown cX3_thrown 1 (some .int) :: ([.fieldLink RX3 33 "StockLogModel" "thrown" "I"] ++ wsX30)
def wsX3_within : List Cond := .code yX3_within cX3_within 3 (some .boolean) :: ([])
def wsX3_kindOf : List Cond := .code yX3_kindOf cX3_kindOf 2 (some .int) :: ([.fieldLink RX3 20 "StockLogModel" "image" "[I", .fieldLink RX3 23 "StockLogModel" "begin" "[I"] ++ wsX30)
def wsX3_longOf : List Cond := .code yX3_longOf cX3_longOf 2 (some .int) :: ([.fieldLink RX3 20 "StockLogModel" "image" "[I", .fieldLink RX3 23 "StockLogModel" "begin" "[I"] ++ wsX30)
def wsX3_rowsOf : List Cond := .code yX3_rowsOf cX3_rowsOf 5 (some .int) :: ([.methodLink RX3 36 yX3_kindOf, .instanceMethod yX3_kindOf, .selects RX3 yX3_kindOf yX3_kindOf, .initialized RX3, .code yX3_kindOf cX3_kindOf 2 (some .int), .fieldLink RX3 20 "StockLogModel" "image" "[I", .fieldLink RX3 23 "StockLogModel" "begin" "[I"] ++ wsX30)
def wsX3_sumOf : List Cond := .code yX3_sumOf cX3_sumOf 5 (some .int) :: ([.constant RX3 40 (-2048144777)])
def wsX3_isFull : List Cond := .code yX3_isFull cX3_isFull 2 (some .boolean) :: ([.fieldLink RX3 23 "StockLogModel" "begin" "[I", .fieldLink RX3 41 "StockLogModel" "rows" "I", .fieldLink RX3 29 "StockLogModel" "size" "I"] ++ wsX30)
def wsX3_head : List Cond := .code yX3_head cX3_head 4 (some .int) :: ([.fieldLink RX3 23 "StockLogModel" "begin" "[I", .fieldLink RX3 41 "StockLogModel" "rows" "I", .fieldLink RX3 20 "StockLogModel" "image" "[I"] ++ wsX30)
def wsX3_close : List Cond := .code yX3_close cX3_close 4 none :: ([.fieldLink RX3 20 "StockLogModel" "image" "[I", .fieldLink RX3 23 "StockLogModel" "begin" "[I", .fieldLink RX3 41 "StockLogModel" "rows" "I", .methodLink RX3 44 yX3_sumOf, .static yX3_sumOf, .initialized RX3, .code yX3_sumOf cX3_sumOf 5 (some .int), .constant RX3 40 (-2048144777)] ++ wsX30)
def wsX3_add : List Cond := .code yX3_add cX3_add 2 (some .int) :: ([.fieldLink RX3 16 "StockLogModel" "up" "Z", .fieldLink RX3 52 "StockLogModel" "toldMany" "I", .fieldLink RX3 33 "StockLogModel" "thrown" "I", .fieldLink RX3 26 "StockLogModel" "told" "[I", .methodLink RX3 48 yX3_within, .static yX3_within, .initialized RX3, .code yX3_within cX3_within 3 (some .boolean)] ++ wsX30)
def wsX3_end_r1 : List Cond := [Cond.fieldLink RX3 16 "StockLogModel" "up" "Z", Cond.fieldLink RX3 52 "StockLogModel" "toldMany" "I", Cond.fieldLink RX3 33 "StockLogModel" "thrown" "I", Cond.fieldLink RX3 20 "StockLogModel" "image" "[I", Cond.fieldLink RX3 26 "StockLogModel" "told" "[I", Cond.fieldLink RX3 41 "StockLogModel" "rows" "I", Cond.methodLink RX3 48 yX3_within, Cond.static yX3_within, Cond.initialized RX3, Cond.code yX3_within cX3_within 3 (some .boolean), Cond.methodLink RX3 55 yX3_isFull, Cond.instanceMethod yX3_isFull, Cond.selects RX3 yX3_isFull yX3_isFull, Cond.code yX3_isFull cX3_isFull 2 (some .boolean), Cond.fieldLink RX3 23 "StockLogModel" "begin" "[I", Cond.fieldLink RX3 29 "StockLogModel" "size" "I", Cond.methodLink RX3 59 yX3_head, Cond.instanceMethod yX3_head, Cond.selects RX3 yX3_head yX3_head, Cond.code yX3_head cX3_head 4 (some .int), Cond.methodLink RX3 63 yX3_close, Cond.instanceMethod yX3_close, Cond.selects RX3 yX3_close yX3_close, Cond.code yX3_close cX3_close 4 none]
def wsX3_end_r2 : List Cond := [Cond.methodLink RX3 44 yX3_sumOf, Cond.static yX3_sumOf, Cond.code yX3_sumOf cX3_sumOf 5 (some .int), Cond.constant RX3 40 (-2048144777)]
def wsX3_end : List Cond := .code yX3_end cX3_end 4 (some .int) :: ((wsX3_end_r1 ++ wsX3_end_r2) ++ wsX30)
def wsX3_whole_r1 : List Cond := [Cond.fieldLink RX3 16 "StockLogModel" "up" "Z", Cond.fieldLink RX3 33 "StockLogModel" "thrown" "I", Cond.fieldLink RX3 41 "StockLogModel" "rows" "I", Cond.fieldLink RX3 20 "StockLogModel" "image" "[I", Cond.methodLink RX3 55 yX3_isFull, Cond.instanceMethod yX3_isFull, Cond.selects RX3 yX3_isFull yX3_isFull, Cond.initialized RX3, Cond.code yX3_isFull cX3_isFull 2 (some .boolean), Cond.fieldLink RX3 23 "StockLogModel" "begin" "[I", Cond.fieldLink RX3 29 "StockLogModel" "size" "I", Cond.methodLink RX3 59 yX3_head, Cond.instanceMethod yX3_head, Cond.selects RX3 yX3_head yX3_head, Cond.code yX3_head cX3_head 4 (some .int), Cond.methodLink RX3 67 yX3_rowsOf, Cond.instanceMethod yX3_rowsOf, Cond.selects RX3 yX3_rowsOf yX3_rowsOf, Cond.code yX3_rowsOf cX3_rowsOf 5 (some .int), Cond.methodLink RX3 36 yX3_kindOf, Cond.instanceMethod yX3_kindOf, Cond.selects RX3 yX3_kindOf yX3_kindOf, Cond.code yX3_kindOf cX3_kindOf 2 (some .int), Cond.methodLink RX3 63 yX3_close]
def wsX3_whole_r2 : List Cond := [Cond.instanceMethod yX3_close, Cond.selects RX3 yX3_close yX3_close, Cond.code yX3_close cX3_close 4 none, Cond.methodLink RX3 44 yX3_sumOf, Cond.static yX3_sumOf, Cond.code yX3_sumOf cX3_sumOf 5 (some .int), Cond.constant RX3 40 (-2048144777)]
def wsX3_whole : List Cond := .code yX3_whole cX3_whole 4 (some .int) :: ((wsX3_whole_r1 ++ wsX3_whole_r2) ++ wsX30)
def wsX3_inMemory : List Cond := .code yX3_inMemory cX3_inMemory 1 (some .int) :: ([.fieldLink RX3 23 "StockLogModel" "begin" "[I", .fieldLink RX3 41 "StockLogModel" "rows" "I", .fieldLink RX3 70 "StockLogModel" "synced" "I"] ++ wsX30)
def wsX3_sync : List Cond := .code yX3_sync cX3_sync 2 (some .int) :: ([.fieldLink RX3 16 "StockLogModel" "up" "Z", .fieldLink RX3 33 "StockLogModel" "thrown" "I", .fieldLink RX3 23 "StockLogModel" "begin" "[I", .fieldLink RX3 70 "StockLogModel" "synced" "I", .fieldLink RX3 41 "StockLogModel" "rows" "I", .fieldLink RX3 7 "StockLogModel" "disk" "[I", .fieldLink RX3 20 "StockLogModel" "image" "[I"] ++ wsX30)
def wsX3_cut : List Cond := .code yX3_cut cX3_cut 5 none :: ([.fieldLink RX3 16 "StockLogModel" "up" "Z", .fieldLink RX3 33 "StockLogModel" "thrown" "I", .fieldLink RX3 23 "StockLogModel" "begin" "[I", .fieldLink RX3 70 "StockLogModel" "synced" "I", .fieldLink RX3 7 "StockLogModel" "disk" "[I", .fieldLink RX3 20 "StockLogModel" "image" "[I", .fieldLink RX3 41 "StockLogModel" "rows" "I", .fieldLink RX3 52 "StockLogModel" "toldMany" "I", .methodLink RX3 48 yX3_within, .static yX3_within, .initialized RX3, .code yX3_within cX3_within 3 (some .boolean), .methodLink RX3 73 yX3_inMemory, .instanceMethod yX3_inMemory, .selects RX3 yX3_inMemory yX3_inMemory, .code yX3_inMemory cX3_inMemory 1 (some .int)] ++ wsX30)
def wsX3_countsRight : List Cond := .code yX3_countsRight cX3_countsRight 4 (some .boolean) :: ([.fieldLink RX3 7 "StockLogModel" "disk" "[I", .fieldLink RX3 41 "StockLogModel" "rows" "I", .methodLink RX3 67 yX3_rowsOf, .instanceMethod yX3_rowsOf, .selects RX3 yX3_rowsOf yX3_rowsOf, .initialized RX3, .code yX3_rowsOf cX3_rowsOf 5 (some .int), .methodLink RX3 36 yX3_kindOf, .instanceMethod yX3_kindOf, .selects RX3 yX3_kindOf yX3_kindOf, .code yX3_kindOf cX3_kindOf 2 (some .int), .fieldLink RX3 20 "StockLogModel" "image" "[I", .fieldLink RX3 23 "StockLogModel" "begin" "[I"] ++ wsX30)
def wsX3_look_r1 : List Cond := [Cond.fieldLink RX3 29 "StockLogModel" "size" "I", Cond.fieldLink RX3 7 "StockLogModel" "disk" "[I", Cond.fieldLink RX3 41 "StockLogModel" "rows" "I", Cond.methodLink RX3 48 yX3_within, Cond.static yX3_within, Cond.initialized RX3, Cond.code yX3_within cX3_within 3 (some .boolean), Cond.methodLink RX3 44 yX3_sumOf, Cond.static yX3_sumOf, Cond.code yX3_sumOf cX3_sumOf 5 (some .int), Cond.constant RX3 40 (-2048144777), Cond.methodLink RX3 77 yX3_countsRight, Cond.instanceMethod yX3_countsRight, Cond.selects RX3 yX3_countsRight yX3_countsRight, Cond.code yX3_countsRight cX3_countsRight 4 (some .boolean), Cond.methodLink RX3 67 yX3_rowsOf, Cond.instanceMethod yX3_rowsOf, Cond.selects RX3 yX3_rowsOf yX3_rowsOf, Cond.code yX3_rowsOf cX3_rowsOf 5 (some .int), Cond.methodLink RX3 36 yX3_kindOf, Cond.instanceMethod yX3_kindOf, Cond.selects RX3 yX3_kindOf yX3_kindOf, Cond.code yX3_kindOf cX3_kindOf 2 (some .int), Cond.fieldLink RX3 20 "StockLogModel" "image" "[I"]
def wsX3_look_r2 : List Cond := [Cond.fieldLink RX3 23 "StockLogModel" "begin" "[I"]
def wsX3_look : List Cond := .code yX3_look cX3_look 6 (some .int) :: ((wsX3_look_r1 ++ wsX3_look_r2) ++ wsX30)
def wsX3_read_r1 : List Cond := [Cond.fieldLink RX3 41 "StockLogModel" "rows" "I", Cond.fieldLink RX3 52 "StockLogModel" "toldMany" "I", Cond.fieldLink RX3 16 "StockLogModel" "up" "Z", Cond.fieldLink RX3 7 "StockLogModel" "disk" "[I", Cond.fieldLink RX3 20 "StockLogModel" "image" "[I", Cond.fieldLink RX3 23 "StockLogModel" "begin" "[I", Cond.fieldLink RX3 84 "StockLogModel" "wrong" "I", Cond.fieldLink RX3 70 "StockLogModel" "synced" "I", Cond.methodLink RX3 81 yX3_look, Cond.instanceMethod yX3_look, Cond.selects RX3 yX3_look yX3_look, Cond.initialized RX3, Cond.code yX3_look cX3_look 6 (some .int), Cond.fieldLink RX3 29 "StockLogModel" "size" "I", Cond.methodLink RX3 48 yX3_within, Cond.static yX3_within, Cond.code yX3_within cX3_within 3 (some .boolean), Cond.methodLink RX3 44 yX3_sumOf, Cond.static yX3_sumOf, Cond.code yX3_sumOf cX3_sumOf 5 (some .int), Cond.constant RX3 40 (-2048144777), Cond.methodLink RX3 77 yX3_countsRight, Cond.instanceMethod yX3_countsRight, Cond.selects RX3 yX3_countsRight yX3_countsRight]
def wsX3_read_r2 : List Cond := [Cond.code yX3_countsRight cX3_countsRight 4 (some .boolean), Cond.methodLink RX3 67 yX3_rowsOf, Cond.instanceMethod yX3_rowsOf, Cond.selects RX3 yX3_rowsOf yX3_rowsOf, Cond.code yX3_rowsOf cX3_rowsOf 5 (some .int), Cond.methodLink RX3 36 yX3_kindOf, Cond.instanceMethod yX3_kindOf, Cond.selects RX3 yX3_kindOf yX3_kindOf, Cond.code yX3_kindOf cX3_kindOf 2 (some .int)]
def wsX3_read : List Cond := .code yX3_read cX3_read 5 none :: ((wsX3_read_r1 ++ wsX3_read_r2) ++ wsX30)
def wsX3_start_r1 : List Cond := [Cond.fieldLink RX3 33 "StockLogModel" "thrown" "I", Cond.fieldLink RX3 41 "StockLogModel" "rows" "I", Cond.methodLink RX3 87 yX3_read, Cond.instanceMethod yX3_read, Cond.selects RX3 yX3_read yX3_read, Cond.initialized RX3, Cond.code yX3_read cX3_read 5 none, Cond.fieldLink RX3 52 "StockLogModel" "toldMany" "I", Cond.fieldLink RX3 16 "StockLogModel" "up" "Z", Cond.fieldLink RX3 7 "StockLogModel" "disk" "[I", Cond.fieldLink RX3 20 "StockLogModel" "image" "[I", Cond.fieldLink RX3 23 "StockLogModel" "begin" "[I", Cond.fieldLink RX3 84 "StockLogModel" "wrong" "I", Cond.fieldLink RX3 70 "StockLogModel" "synced" "I", Cond.methodLink RX3 81 yX3_look, Cond.instanceMethod yX3_look, Cond.selects RX3 yX3_look yX3_look, Cond.code yX3_look cX3_look 6 (some .int), Cond.fieldLink RX3 29 "StockLogModel" "size" "I", Cond.methodLink RX3 48 yX3_within, Cond.static yX3_within, Cond.code yX3_within cX3_within 3 (some .boolean), Cond.methodLink RX3 44 yX3_sumOf, Cond.static yX3_sumOf]
def wsX3_start_r2 : List Cond := [Cond.code yX3_sumOf cX3_sumOf 5 (some .int), Cond.constant RX3 40 (-2048144777), Cond.methodLink RX3 77 yX3_countsRight, Cond.instanceMethod yX3_countsRight, Cond.selects RX3 yX3_countsRight yX3_countsRight, Cond.code yX3_countsRight cX3_countsRight 4 (some .boolean), Cond.methodLink RX3 67 yX3_rowsOf, Cond.instanceMethod yX3_rowsOf, Cond.selects RX3 yX3_rowsOf yX3_rowsOf, Cond.code yX3_rowsOf cX3_rowsOf 5 (some .int), Cond.methodLink RX3 36 yX3_kindOf, Cond.instanceMethod yX3_kindOf, Cond.selects RX3 yX3_kindOf yX3_kindOf, Cond.code yX3_kindOf cX3_kindOf 2 (some .int)]
def wsX3_start : List Cond := .code yX3_start cX3_start 1 (some .int) :: ((wsX3_start_r1 ++ wsX3_start_r2) ++ wsX30)
def wsX3_isByte : List Cond := .code yX3_isByte cX3_isByte 3 (some .boolean) :: ([.fieldLink RX3 29 "StockLogModel" "size" "I", .methodLink RX3 48 yX3_within, .static yX3_within, .initialized RX3, .code yX3_within cX3_within 3 (some .boolean)] ++ wsX30)
def wsX3_poke : List Cond := .code yX3_poke cX3_poke 4 (some .int) :: ([.fieldLink RX3 33 "StockLogModel" "thrown" "I", .fieldLink RX3 7 "StockLogModel" "disk" "[I", .methodLink RX3 48 yX3_within, .static yX3_within, .initialized RX3, .code yX3_within cX3_within 3 (some .boolean), .methodLink RX3 90 yX3_isByte, .instanceMethod yX3_isByte, .selects RX3 yX3_isByte yX3_isByte, .code yX3_isByte cX3_isByte 3 (some .boolean), .fieldLink RX3 29 "StockLogModel" "size" "I"] ++ wsX30)
def wsX3_byteOf : List Cond := .code yX3_byteOf cX3_byteOf 3 (some .int) :: ([.fieldLink RX3 33 "StockLogModel" "thrown" "I", .fieldLink RX3 7 "StockLogModel" "disk" "[I", .methodLink RX3 90 yX3_isByte, .instanceMethod yX3_isByte, .selects RX3 yX3_isByte yX3_isByte, .initialized RX3, .code yX3_isByte cX3_isByte 3 (some .boolean), .fieldLink RX3 29 "StockLogModel" "size" "I", .methodLink RX3 48 yX3_within, .static yX3_within, .code yX3_within cX3_within 3 (some .boolean)] ++ wsX30)
def wsX3_backup : List Cond := .code yX3_backup cX3_backup 2 (some .int) :: ([.fieldLink RX3 16 "StockLogModel" "up" "Z", .fieldLink RX3 33 "StockLogModel" "thrown" "I", .fieldLink RX3 29 "StockLogModel" "size" "I", .fieldLink RX3 13 "StockLogModel" "saved" "[I", .fieldLink RX3 7 "StockLogModel" "disk" "[I", .fieldLink RX3 93 "StockLogModel" "hasBackup" "Z", .fieldLink RX3 70 "StockLogModel" "synced" "I"] ++ wsX30)
def wsX3_restore_r1 : List Cond := [Cond.fieldLink RX3 93 "StockLogModel" "hasBackup" "Z", Cond.fieldLink RX3 33 "StockLogModel" "thrown" "I", Cond.fieldLink RX3 29 "StockLogModel" "size" "I", Cond.fieldLink RX3 7 "StockLogModel" "disk" "[I", Cond.fieldLink RX3 13 "StockLogModel" "saved" "[I", Cond.fieldLink RX3 41 "StockLogModel" "rows" "I", Cond.methodLink RX3 87 yX3_read, Cond.instanceMethod yX3_read, Cond.selects RX3 yX3_read yX3_read, Cond.initialized RX3, Cond.code yX3_read cX3_read 5 none, Cond.fieldLink RX3 52 "StockLogModel" "toldMany" "I", Cond.fieldLink RX3 16 "StockLogModel" "up" "Z", Cond.fieldLink RX3 20 "StockLogModel" "image" "[I", Cond.fieldLink RX3 23 "StockLogModel" "begin" "[I", Cond.fieldLink RX3 84 "StockLogModel" "wrong" "I", Cond.fieldLink RX3 70 "StockLogModel" "synced" "I", Cond.methodLink RX3 81 yX3_look, Cond.instanceMethod yX3_look, Cond.selects RX3 yX3_look yX3_look, Cond.code yX3_look cX3_look 6 (some .int), Cond.methodLink RX3 48 yX3_within, Cond.static yX3_within, Cond.code yX3_within cX3_within 3 (some .boolean)]
def wsX3_restore_r2 : List Cond := [Cond.methodLink RX3 44 yX3_sumOf, Cond.static yX3_sumOf, Cond.code yX3_sumOf cX3_sumOf 5 (some .int), Cond.constant RX3 40 (-2048144777), Cond.methodLink RX3 77 yX3_countsRight, Cond.instanceMethod yX3_countsRight, Cond.selects RX3 yX3_countsRight yX3_countsRight, Cond.code yX3_countsRight cX3_countsRight 4 (some .boolean), Cond.methodLink RX3 67 yX3_rowsOf, Cond.instanceMethod yX3_rowsOf, Cond.selects RX3 yX3_rowsOf yX3_rowsOf, Cond.code yX3_rowsOf cX3_rowsOf 5 (some .int), Cond.methodLink RX3 36 yX3_kindOf, Cond.instanceMethod yX3_kindOf, Cond.selects RX3 yX3_kindOf yX3_kindOf, Cond.code yX3_kindOf cX3_kindOf 2 (some .int)]
def wsX3_restore : List Cond := .code yX3_restore cX3_restore 2 (some .int) :: ((wsX3_restore_r1 ++ wsX3_restore_r2) ++ wsX30)
def wsX3_row : List Cond := .code yX3_row cX3_row 5 (some .int) :: ([.fieldLink RX3 41 "StockLogModel" "rows" "I", .fieldLink RX3 33 "StockLogModel" "thrown" "I", .fieldLink RX3 70 "StockLogModel" "synced" "I", .fieldLink RX3 20 "StockLogModel" "image" "[I", .fieldLink RX3 23 "StockLogModel" "begin" "[I", .methodLink RX3 48 yX3_within, .static yX3_within, .initialized RX3, .code yX3_within cX3_within 3 (some .boolean), .methodLink RX3 96 yX3_longOf, .instanceMethod yX3_longOf, .selects RX3 yX3_longOf yX3_longOf, .code yX3_longOf cX3_longOf 2 (some .int), .methodLink RX3 36 yX3_kindOf, .instanceMethod yX3_kindOf, .selects RX3 yX3_kindOf yX3_kindOf, .code yX3_kindOf cX3_kindOf 2 (some .int)] ++ wsX30)
def wsX3_find : List Cond := .code yX3_find cX3_find 5 (some .int) :: ([.fieldLink RX3 33 "StockLogModel" "thrown" "I", .fieldLink RX3 41 "StockLogModel" "rows" "I", .methodLink RX3 48 yX3_within, .static yX3_within, .initialized RX3, .code yX3_within cX3_within 3 (some .boolean), .methodLink RX3 36 yX3_kindOf, .instanceMethod yX3_kindOf, .selects RX3 yX3_kindOf yX3_kindOf, .code yX3_kindOf cX3_kindOf 2 (some .int), .fieldLink RX3 20 "StockLogModel" "image" "[I", .fieldLink RX3 23 "StockLogModel" "begin" "[I"] ++ wsX30)
def wsX3_wrong : List Cond := .code yX3_wrong cX3_wrong 1 (some .int) :: ([.fieldLink RX3 33 "StockLogModel" "thrown" "I", .fieldLink RX3 84 "StockLogModel" "wrong" "I"] ++ wsX30)
def wsX3_total : List Cond := .code yX3_total cX3_total 7 (some .int) :: ([.fieldLink RX3 33 "StockLogModel" "thrown" "I", .fieldLink RX3 41 "StockLogModel" "rows" "I", .fieldLink RX3 20 "StockLogModel" "image" "[I", .fieldLink RX3 23 "StockLogModel" "begin" "[I", .methodLink RX3 48 yX3_within, .static yX3_within, .initialized RX3, .code yX3_within cX3_within 3 (some .boolean), .methodLink RX3 36 yX3_kindOf, .instanceMethod yX3_kindOf, .selects RX3 yX3_kindOf yX3_kindOf, .code yX3_kindOf cX3_kindOf 2 (some .int), .methodLink RX3 96 yX3_longOf, .instanceMethod yX3_longOf, .selects RX3 yX3_longOf yX3_longOf, .code yX3_longOf cX3_longOf 2 (some .int)] ++ wsX30)
def wsX3_count : List Cond := .code yX3_count cX3_count 2 (some .int) :: ([.fieldLink RX3 33 "StockLogModel" "thrown" "I", .fieldLink RX3 29 "StockLogModel" "size" "I", .fieldLink RX3 41 "StockLogModel" "rows" "I", .fieldLink RX3 70 "StockLogModel" "synced" "I", .fieldLink RX3 52 "StockLogModel" "toldMany" "I", .fieldLink RX3 16 "StockLogModel" "up" "Z", .fieldLink RX3 23 "StockLogModel" "begin" "[I", .methodLink RX3 73 yX3_inMemory, .instanceMethod yX3_inMemory, .selects RX3 yX3_inMemory yX3_inMemory, .initialized RX3, .code yX3_inMemory cX3_inMemory 1 (some .int), .methodLink RX3 67 yX3_rowsOf, .instanceMethod yX3_rowsOf, .selects RX3 yX3_rowsOf yX3_rowsOf, .code yX3_rowsOf cX3_rowsOf 5 (some .int), .methodLink RX3 36 yX3_kindOf, .instanceMethod yX3_kindOf, .selects RX3 yX3_kindOf yX3_kindOf, .code yX3_kindOf cX3_kindOf 2 (some .int), .fieldLink RX3 20 "StockLogModel" "image" "[I"] ++ wsX30)
def wsJx00060_init_a7421 : List Cond := .code yJx00060_init_a7421 cJx00060_init_a7421 2 none :: ([])
def wsJ9_max_7cf53 : List Cond := .code yJ9_max_7cf53 cJ9_max_7cf53 2 (some .int) :: ([])
def wsJ9_min_7cf53 : List Cond := .code yJ9_min_7cf53 cJ9_min_7cf53 2 (some .int) :: ([])
def wsL_cell : List Cond := .code yL_cell cL_cell 2 (some .int) :: ([])
def wsL_add_r1 : List Cond := [Cond.classLink RL 13 "java/lang/IllegalArgumentException", Cond.classLink RL 15 "java/lang/IllegalStateException", Cond.classLink RL 17 "java/lang/UnsupportedOperationException", Cond.methodLink RL 7 yX2_add, Cond.instanceMethod yX2_add, Cond.selects RX2 yX2_add yX2_add, Cond.initialized RX2, Cond.code yX2_add cX2_add 2 (some .int), Cond.classLink RX2 51 "java/lang/IllegalArgumentException", Cond.initialized "java/lang/IllegalArgumentException", Cond.classLink RX2 64 "java/lang/UnsupportedOperationException", Cond.initialized "java/lang/UnsupportedOperationException", Cond.fieldLink RX2 61 "StockLog" "toldCount" "I", Cond.fieldLink RX2 34 "StockLog" "told" "LStockLog$Cells;", Cond.methodLink RX2 58 yX2_refuseWhenDown, Cond.instanceMethod yX2_refuseWhenDown, Cond.selects RX2 yX2_refuseWhenDown yX2_refuseWhenDown, Cond.code yX2_refuseWhenDown cX2_refuseWhenDown 1 none, Cond.classLink RX2 161 "java/lang/IllegalStateException", Cond.initialized "java/lang/IllegalStateException", Cond.fieldLink RX2 47 "StockLog" "up" "Z", Cond.methodLink RX2 69 yX0_set, Cond.instanceMethod yX0_set, Cond.selects RX0 yX0_set yX0_set]
def wsL_add_r2 : List Cond := [Cond.initialized RX0, Cond.code yX0_set cX0_set 3 none, Cond.fieldLink RX0 15 "StockLog$Cells" "cells" "[I"]
def wsL_add : List Cond := .codeWith yL_add cL_add 4 (some .int) [(0, 9, 12, 13), (0, 9, 15, 15), (0, 9, 18, 17)] :: ((wsL_add_r1 ++ wsL_add_r2) ++ wsX20 ++ wsX00 ++ (vx_atS RX2 55 "java/lang/IllegalArgumentException" ["java/lang/RuntimeException", "java/lang/Exception"]).filter goodWord ++ (vx_atS RX2 68 "java/lang/UnsupportedOperationException" ["java/lang/RuntimeException", "java/lang/Exception"]).filter goodWord ++ (vx_atS RX2 165 "java/lang/IllegalStateException" ["java/lang/RuntimeException", "java/lang/Exception"]).filter goodWord)
def wsL_end_r1 : List Cond := [Cond.classLink RL 13 "java/lang/IllegalArgumentException", Cond.classLink RL 15 "java/lang/IllegalStateException", Cond.classLink RL 17 "java/lang/UnsupportedOperationException", Cond.methodLink RL 19 yX2_end, Cond.instanceMethod yX2_end, Cond.selects RX2 yX2_end yX2_end, Cond.initialized RX2, Cond.code yX2_end cX2_end 3 (some .int), Cond.classLink RX2 51 "java/lang/IllegalArgumentException", Cond.initialized "java/lang/IllegalArgumentException", Cond.fieldLink RX2 61 "StockLog" "toldCount" "I", Cond.fieldLink RX2 40 "StockLog" "rows" "LStockLog$Rows;", Cond.fieldLink RX2 34 "StockLog" "told" "LStockLog$Cells;", Cond.methodLink RX2 75 yX2_refuseOtherKind, Cond.instanceMethod yX2_refuseOtherKind, Cond.selects RX2 yX2_refuseOtherKind yX2_refuseOtherKind, Cond.code yX2_refuseOtherKind cX2_refuseOtherKind 2 none, Cond.methodLink RX2 175 yX2_isKind, Cond.static yX2_isKind, Cond.code yX2_isKind cX2_isKind 1 (some .boolean), Cond.methodLink RX2 58 yX2_refuseWhenDown, Cond.instanceMethod yX2_refuseWhenDown, Cond.selects RX2 yX2_refuseWhenDown yX2_refuseWhenDown, Cond.code yX2_refuseWhenDown cX2_refuseWhenDown 1 none]
def wsL_end_r2 : List Cond := [Cond.classLink RX2 161 "java/lang/IllegalStateException", Cond.initialized "java/lang/IllegalStateException", Cond.fieldLink RX2 47 "StockLog" "up" "Z", Cond.methodLink RX2 78 yX2_refuseWhenFull, Cond.instanceMethod yX2_refuseWhenFull, Cond.selects RX2 yX2_refuseWhenFull yX2_refuseWhenFull, Cond.code yX2_refuseWhenFull cX2_refuseWhenFull 2 none, Cond.classLink RX2 64 "java/lang/UnsupportedOperationException", Cond.initialized "java/lang/UnsupportedOperationException", Cond.fieldLink RX2 27 "StockLog" "disk" "LStockLog$Cells;", Cond.methodLink RX2 155 yX0_length, Cond.instanceMethod yX0_length, Cond.selects RX0 yX0_length yX0_length, Cond.initialized RX0, Cond.code yX0_length cX0_length 1 (some .int), Cond.fieldLink RX0 15 "StockLog$Cells" "cells" "[I", Cond.methodLink RX2 81 yX1_write, Cond.instanceMethod yX1_write, Cond.selects RX1 yX1_write yX1_write, Cond.initialized RX1, Cond.code yX1_write cX1_write 5 (some .int), Cond.fieldLink RX1 14 "StockLog$Rows" "image" "LStockLog$Cells;", Cond.fieldLink RX1 47 "StockLog$Rows" "used" "I", Cond.fieldLink RX1 29 "StockLog$Rows" "last" "I"]
def wsL_end_r3 : List Cond := [Cond.methodLink RX1 53 yX0_set, Cond.instanceMethod yX0_set, Cond.selects RX0 yX0_set yX0_set, Cond.code yX0_set cX0_set 3 none, Cond.methodLink RX1 57 yX0_setNumber, Cond.instanceMethod yX0_setNumber, Cond.selects RX0 yX0_setNumber yX0_setNumber, Cond.code yX0_setNumber cX0_setNumber 6 none, Cond.methodLink RX0 25 yX0_set, Cond.methodLink RX1 33 yX0_at, Cond.instanceMethod yX0_at, Cond.selects RX0 yX0_at yX0_at, Cond.code yX0_at cX0_at 2 (some .int), Cond.static yX2_sumOfRow, Cond.code yX2_sumOfRow cX2_sumOfRow 7 (some .int), Cond.constant RX2 201 (-2048144777), Cond.methodLink RX2 115 yX0_at, Cond.methodLink RX1 65 yX1_enlistNext, Cond.instanceMethod yX1_enlistNext, Cond.selects RX1 yX1_enlistNext yX1_enlistNext, Cond.code yX1_enlistNext cX1_enlistNext 2 none, Cond.fieldLink RX1 20 "StockLog$Rows" "starts" "LStockLog$Cells;", Cond.fieldLink RX1 23 "StockLog$Rows" "ofKind" "LStockLog$Cells;", Cond.methodLink RX1 44 yX1_kindOf]
def wsL_end_r4 : List Cond := [Cond.instanceMethod yX1_kindOf, Cond.selects RX1 yX1_kindOf yX1_kindOf, Cond.code yX1_kindOf cX1_kindOf 2 (some .int), Cond.methodLink RX1 37 yX1_lengthOf, Cond.instanceMethod yX1_lengthOf, Cond.selects RX1 yX1_lengthOf yX1_lengthOf, Cond.code yX1_lengthOf cX1_lengthOf 2 (some .int)]
def wsL_end : List Cond := .codeWith yL_end cL_end 4 (some .int) [(0, 9, 12, 13), (0, 9, 15, 15), (0, 9, 18, 17)] :: ((wsL_end_r1 ++ (wsL_end_r2 ++ (wsL_end_r3 ++ wsL_end_r4))) ++ wsX20 ++ wsX10 ++ wsX00 ++ (vx_atS RX2 55 "java/lang/IllegalArgumentException" ["java/lang/RuntimeException", "java/lang/Exception"]).filter goodWord ++ (vx_atS RX2 165 "java/lang/IllegalStateException" ["java/lang/RuntimeException", "java/lang/Exception"]).filter goodWord ++ (vx_atS RX2 68 "java/lang/UnsupportedOperationException" ["java/lang/RuntimeException", "java/lang/Exception"]).filter goodWord)
def wsL_whole_r1 : List Cond := [Cond.classLink RL 15 "java/lang/IllegalStateException", Cond.classLink RL 17 "java/lang/UnsupportedOperationException", Cond.methodLink RL 22 yX2_whole, Cond.instanceMethod yX2_whole, Cond.selects RX2 yX2_whole yX2_whole, Cond.initialized RX2, Cond.code yX2_whole cX2_whole 1 (some .int), Cond.fieldLink RX2 40 "StockLog" "rows" "LStockLog$Rows;", Cond.methodLink RX2 58 yX2_refuseWhenDown, Cond.instanceMethod yX2_refuseWhenDown, Cond.selects RX2 yX2_refuseWhenDown yX2_refuseWhenDown, Cond.code yX2_refuseWhenDown cX2_refuseWhenDown 1 none, Cond.classLink RX2 161 "java/lang/IllegalStateException", Cond.initialized "java/lang/IllegalStateException", Cond.fieldLink RX2 47 "StockLog" "up" "Z", Cond.methodLink RX2 78 yX2_refuseWhenFull, Cond.instanceMethod yX2_refuseWhenFull, Cond.selects RX2 yX2_refuseWhenFull yX2_refuseWhenFull, Cond.code yX2_refuseWhenFull cX2_refuseWhenFull 2 none, Cond.classLink RX2 64 "java/lang/UnsupportedOperationException", Cond.initialized "java/lang/UnsupportedOperationException", Cond.fieldLink RX2 27 "StockLog" "disk" "LStockLog$Cells;", Cond.methodLink RX2 155 yX0_length, Cond.instanceMethod yX0_length]
def wsL_whole_r2 : List Cond := [Cond.selects RX0 yX0_length yX0_length, Cond.initialized RX0, Cond.code yX0_length cX0_length 1 (some .int), Cond.fieldLink RX0 15 "StockLog$Cells" "cells" "[I", Cond.methodLink RX2 85 yX1_writeState, Cond.instanceMethod yX1_writeState, Cond.selects RX1 yX1_writeState yX1_writeState, Cond.initialized RX1, Cond.code yX1_writeState cX1_writeState 1 (some .int), Cond.fieldLink RX1 26 "StockLog$Rows" "state" "LStockLog$Cells;", Cond.methodLink RX1 68 yX1_fillState, Cond.instanceMethod yX1_fillState, Cond.selects RX1 yX1_fillState yX1_fillState, Cond.code yX1_fillState cX1_fillState 2 none, Cond.fieldLink RX1 23 "StockLog$Rows" "ofKind" "LStockLog$Cells;", Cond.methodLink RX1 33 yX0_at, Cond.instanceMethod yX0_at, Cond.selects RX0 yX0_at yX0_at, Cond.code yX0_at cX0_at 2 (some .int), Cond.methodLink RX1 57 yX0_setNumber, Cond.instanceMethod yX0_setNumber, Cond.selects RX0 yX0_setNumber yX0_setNumber, Cond.code yX0_setNumber cX0_setNumber 6 none, Cond.methodLink RX0 25 yX0_set]
def wsL_whole_r3 : List Cond := [Cond.instanceMethod yX0_set, Cond.selects RX0 yX0_set yX0_set, Cond.code yX0_set cX0_set 3 none, Cond.methodLink RX1 71 yX1_write, Cond.instanceMethod yX1_write, Cond.selects RX1 yX1_write yX1_write, Cond.code yX1_write cX1_write 5 (some .int), Cond.fieldLink RX1 14 "StockLog$Rows" "image" "LStockLog$Cells;", Cond.fieldLink RX1 47 "StockLog$Rows" "used" "I", Cond.fieldLink RX1 29 "StockLog$Rows" "last" "I", Cond.methodLink RX1 53 yX0_set, Cond.static yX2_sumOfRow, Cond.code yX2_sumOfRow cX2_sumOfRow 7 (some .int), Cond.constant RX2 201 (-2048144777), Cond.methodLink RX2 115 yX0_at, Cond.methodLink RX1 65 yX1_enlistNext, Cond.instanceMethod yX1_enlistNext, Cond.selects RX1 yX1_enlistNext yX1_enlistNext, Cond.code yX1_enlistNext cX1_enlistNext 2 none, Cond.fieldLink RX1 20 "StockLog$Rows" "starts" "LStockLog$Cells;", Cond.methodLink RX1 44 yX1_kindOf, Cond.instanceMethod yX1_kindOf, Cond.selects RX1 yX1_kindOf yX1_kindOf, Cond.code yX1_kindOf cX1_kindOf 2 (some .int)]
def wsL_whole_r4 : List Cond := [Cond.methodLink RX1 37 yX1_lengthOf, Cond.instanceMethod yX1_lengthOf, Cond.selects RX1 yX1_lengthOf yX1_lengthOf, Cond.code yX1_lengthOf cX1_lengthOf 2 (some .int)]
def wsL_whole : List Cond := .codeWith yL_whole cL_whole 3 (some .int) [(0, 8, 11, 15), (0, 8, 14, 17)] :: ((wsL_whole_r1 ++ (wsL_whole_r2 ++ (wsL_whole_r3 ++ wsL_whole_r4))) ++ wsX20 ++ wsX10 ++ wsX00 ++ (vx_atS RX2 165 "java/lang/IllegalStateException" ["java/lang/RuntimeException", "java/lang/Exception"]).filter goodWord ++ (vx_atS RX2 68 "java/lang/UnsupportedOperationException" ["java/lang/RuntimeException", "java/lang/Exception"]).filter goodWord)
def wsL_sync_r1 : List Cond := [Cond.classLink RL 15 "java/lang/IllegalStateException", Cond.methodLink RL 26 yX2_sync, Cond.instanceMethod yX2_sync, Cond.selects RX2 yX2_sync yX2_sync, Cond.initialized RX2, Cond.code yX2_sync cX2_sync 2 (some .int), Cond.fieldLink RX2 40 "StockLog" "rows" "LStockLog$Rows;", Cond.fieldLink RX2 27 "StockLog" "disk" "LStockLog$Cells;", Cond.methodLink RX2 58 yX2_refuseWhenDown, Cond.instanceMethod yX2_refuseWhenDown, Cond.selects RX2 yX2_refuseWhenDown yX2_refuseWhenDown, Cond.code yX2_refuseWhenDown cX2_refuseWhenDown 1 none, Cond.classLink RX2 161 "java/lang/IllegalStateException", Cond.initialized "java/lang/IllegalStateException", Cond.fieldLink RX2 47 "StockLog" "up" "Z", Cond.methodLink RX2 101 yX0_copy, Cond.instanceMethod yX0_copy, Cond.selects RX0 yX0_copy yX0_copy, Cond.initialized RX0, Cond.code yX0_copy cX0_copy 5 none, Cond.methodLink RX0 21 yX0_at, Cond.instanceMethod yX0_at, Cond.selects RX0 yX0_at yX0_at, Cond.code yX0_at cX0_at 2 (some .int)]
def wsL_sync_r2 : List Cond := [Cond.fieldLink RX0 15 "StockLog$Cells" "cells" "[I", Cond.methodLink RX0 25 yX0_set, Cond.instanceMethod yX0_set, Cond.selects RX0 yX0_set yX0_set, Cond.code yX0_set cX0_set 3 none, Cond.methodLink RX2 105 yX1_markAllOnDisk, Cond.instanceMethod yX1_markAllOnDisk, Cond.selects RX1 yX1_markAllOnDisk yX1_markAllOnDisk, Cond.initialized RX1, Cond.code yX1_markAllOnDisk cX1_markAllOnDisk 1 none, Cond.fieldLink RX1 29 "StockLog$Rows" "last" "I", Cond.fieldLink RX1 75 "StockLog$Rows" "lastOnDisk" "I", Cond.fieldLink RX1 47 "StockLog$Rows" "used" "I", Cond.fieldLink RX1 50 "StockLog$Rows" "usedOnDisk" "I"]
def wsL_sync : List Cond := .codeWith yL_sync cL_sync 3 (some .int) [(0, 8, 11, 15)] :: ((wsL_sync_r1 ++ wsL_sync_r2) ++ wsX20 ++ wsX10 ++ wsX00 ++ (vx_atS RX2 165 "java/lang/IllegalStateException" ["java/lang/RuntimeException", "java/lang/Exception"]).filter goodWord)
def wsL_cut_r1 : List Cond := [Cond.classLink RL 13 "java/lang/IllegalArgumentException", Cond.classLink RL 15 "java/lang/IllegalStateException", Cond.methodLink RL 29 yX2_cut, Cond.instanceMethod yX2_cut, Cond.selects RX2 yX2_cut yX2_cut, Cond.initialized RX2, Cond.code yX2_cut cX2_cut 4 none, Cond.classLink RX2 51 "java/lang/IllegalArgumentException", Cond.initialized "java/lang/IllegalArgumentException", Cond.fieldLink RX2 40 "StockLog" "rows" "LStockLog$Rows;", Cond.fieldLink RX2 27 "StockLog" "disk" "LStockLog$Cells;", Cond.fieldLink RX2 61 "StockLog" "toldCount" "I", Cond.fieldLink RX2 47 "StockLog" "up" "Z", Cond.methodLink RX2 108 yX1_bytesInMemory, Cond.instanceMethod yX1_bytesInMemory, Cond.selects RX1 yX1_bytesInMemory yX1_bytesInMemory, Cond.initialized RX1, Cond.code yX1_bytesInMemory cX1_bytesInMemory 1 (some .int), Cond.fieldLink RX1 47 "StockLog$Rows" "used" "I", Cond.fieldLink RX1 50 "StockLog$Rows" "usedOnDisk" "I", Cond.methodLink RX2 58 yX2_refuseWhenDown, Cond.instanceMethod yX2_refuseWhenDown, Cond.selects RX2 yX2_refuseWhenDown yX2_refuseWhenDown, Cond.code yX2_refuseWhenDown cX2_refuseWhenDown 1 none]
def wsL_cut_r2 : List Cond := [Cond.classLink RX2 161 "java/lang/IllegalStateException", Cond.initialized "java/lang/IllegalStateException", Cond.methodLink RX2 101 yX0_copy, Cond.instanceMethod yX0_copy, Cond.selects RX0 yX0_copy yX0_copy, Cond.initialized RX0, Cond.code yX0_copy cX0_copy 5 none, Cond.methodLink RX0 21 yX0_at, Cond.instanceMethod yX0_at, Cond.selects RX0 yX0_at yX0_at, Cond.code yX0_at cX0_at 2 (some .int), Cond.fieldLink RX0 15 "StockLog$Cells" "cells" "[I", Cond.methodLink RX0 25 yX0_set, Cond.instanceMethod yX0_set, Cond.selects RX0 yX0_set yX0_set, Cond.code yX0_set cX0_set 3 none, Cond.methodLink RX2 115 yX0_at, Cond.methodLink RX2 69 yX0_set, Cond.methodLink RX2 119 yX1_dropMemory, Cond.instanceMethod yX1_dropMemory, Cond.selects RX1 yX1_dropMemory yX1_dropMemory, Cond.code yX1_dropMemory cX1_dropMemory 3 none, Cond.fieldLink RX1 75 "StockLog$Rows" "lastOnDisk" "I", Cond.fieldLink RX1 29 "StockLog$Rows" "last" "I"]
def wsL_cut_r3 : List Cond := [Cond.fieldLink RX1 23 "StockLog$Rows" "ofKind" "LStockLog$Cells;", Cond.methodLink RX1 44 yX1_kindOf, Cond.instanceMethod yX1_kindOf, Cond.selects RX1 yX1_kindOf yX1_kindOf, Cond.code yX1_kindOf cX1_kindOf 2 (some .int), Cond.fieldLink RX1 14 "StockLog$Rows" "image" "LStockLog$Cells;", Cond.fieldLink RX1 20 "StockLog$Rows" "starts" "LStockLog$Cells;", Cond.methodLink RX1 33 yX0_at, Cond.methodLink RX1 53 yX0_set]
def wsL_cut : List Cond := .codeWith yL_cut cL_cut 4 (some .int) [(0, 6, 9, 13), (0, 6, 12, 15)] :: ((wsL_cut_r1 ++ (wsL_cut_r2 ++ wsL_cut_r3)) ++ wsX20 ++ wsX10 ++ wsX00 ++ (vx_atS RX2 55 "java/lang/IllegalArgumentException" ["java/lang/RuntimeException", "java/lang/Exception"]).filter goodWord ++ (vx_atS RX2 165 "java/lang/IllegalStateException" ["java/lang/RuntimeException", "java/lang/Exception"]).filter goodWord)
def wsL_poke_r1 : List Cond := [Cond.classLink RL 13 "java/lang/IllegalArgumentException", Cond.methodLink RL 33 yX2_poke, Cond.instanceMethod yX2_poke, Cond.selects RX2 yX2_poke yX2_poke, Cond.initialized RX2, Cond.code yX2_poke cX2_poke 5 (some .int), Cond.classLink RX2 51 "java/lang/IllegalArgumentException", Cond.initialized "java/lang/IllegalArgumentException", Cond.fieldLink RX2 27 "StockLog" "disk" "LStockLog$Cells;", Cond.methodLink RX2 127 yX2_placeOf, Cond.instanceMethod yX2_placeOf, Cond.selects RX2 yX2_placeOf yX2_placeOf, Cond.code yX2_placeOf cX2_placeOf 3 (some .int), Cond.fieldLink RX2 18 "StockLog" "sectors" "I", Cond.classLink RX2 184 RJx00060, Cond.instantiable RJx00060 6, Cond.initialized RJx00060, Cond.methodLink RX2 115 yX0_at, Cond.instanceMethod yX0_at, Cond.selects RX0 yX0_at yX0_at, Cond.initialized RX0, Cond.code yX0_at cX0_at 2 (some .int), Cond.fieldLink RX0 15 "StockLog$Cells" "cells" "[I", Cond.methodLink RX2 69 yX0_set]
def wsL_poke_r2 : List Cond := [Cond.instanceMethod yX0_set, Cond.selects RX0 yX0_set yX0_set, Cond.code yX0_set cX0_set 3 none]
def wsL_poke : List Cond := .codeWith yL_poke cL_poke 6 (some .int) [(0, 12, 15, 13), (0, 12, 19, 37)] :: ((wsL_poke_r1 ++ wsL_poke_r2) ++ wsX20 ++ wsJx000600 ++ wsX00 ++ (vx_atS RX2 55 "java/lang/IllegalArgumentException" ["java/lang/RuntimeException", "java/lang/Exception"]).filter goodWord)
def wsL_byteOf : List Cond := .codeWith yL_byteOf cL_byteOf 5 (some .int) [(0, 10, 13, 37)] :: ([.methodLink RL 39 yX2_byteOf, .instanceMethod yX2_byteOf, .selects RX2 yX2_byteOf yX2_byteOf, .initialized RX2, .code yX2_byteOf cX2_byteOf 3 (some .int), .fieldLink RX2 27 "StockLog" "disk" "LStockLog$Cells;", .methodLink RX2 127 yX2_placeOf, .instanceMethod yX2_placeOf, .selects RX2 yX2_placeOf yX2_placeOf, .code yX2_placeOf cX2_placeOf 3 (some .int), .fieldLink RX2 18 "StockLog" "sectors" "I", .classLink RX2 184 RJx00060, .instantiable RJx00060 6, .initialized RJx00060, .methodLink RX2 115 yX0_at, .instanceMethod yX0_at, .selects RX0 yX0_at yX0_at, .initialized RX0, .code yX0_at cX0_at 2 (some .int), .fieldLink RX0 15 "StockLog$Cells" "cells" "[I"] ++ wsX20 ++ wsJx000600 ++ wsX00)
def wsL_row_r1 : List Cond := [Cond.classLink RL 46 "java/util/NoSuchElementException", Cond.classLink RL 13 "java/lang/IllegalArgumentException", Cond.methodLink RL 43 yX2_row, Cond.instanceMethod yX2_row, Cond.selects RX2 yX2_row yX2_row, Cond.initialized RX2, Cond.code yX2_row cX2_row 3 (some .int), Cond.classLink RX2 134 "java/util/NoSuchElementException", Cond.initialized "java/util/NoSuchElementException", Cond.classLink RX2 51 "java/lang/IllegalArgumentException", Cond.initialized "java/lang/IllegalArgumentException", Cond.fieldLink RX2 40 "StockLog" "rows" "LStockLog$Rows;", Cond.methodLink RX2 130 yX1_has, Cond.instanceMethod yX1_has, Cond.selects RX1 yX1_has yX1_has, Cond.initialized RX1, Cond.code yX1_has cX1_has 2 (some .boolean), Cond.fieldLink RX1 29 "StockLog$Rows" "last" "I", Cond.methodLink RX2 139 yX2_byteOfRow, Cond.instanceMethod yX2_byteOfRow, Cond.selects RX2 yX2_byteOfRow yX2_byteOfRow, Cond.code yX2_byteOfRow cX2_byteOfRow 3 (some .int), Cond.methodLink RX2 145 yX1_lengthOf, Cond.instanceMethod yX1_lengthOf]
def wsL_row_r2 : List Cond := [Cond.selects RX1 yX1_lengthOf yX1_lengthOf, Cond.code yX1_lengthOf cX1_lengthOf 2 (some .int), Cond.fieldLink RX1 14 "StockLog$Rows" "image" "LStockLog$Cells;", Cond.fieldLink RX1 20 "StockLog$Rows" "starts" "LStockLog$Cells;", Cond.methodLink RX1 33 yX0_at, Cond.instanceMethod yX0_at, Cond.selects RX0 yX0_at yX0_at, Cond.initialized RX0, Cond.code yX0_at cX0_at 2 (some .int), Cond.fieldLink RX0 15 "StockLog$Cells" "cells" "[I", Cond.methodLink RX2 191 yX1_byteAt, Cond.instanceMethod yX1_byteAt, Cond.selects RX1 yX1_byteAt yX1_byteAt, Cond.code yX1_byteAt cX1_byteAt 3 (some .int), Cond.methodLink RX2 142 yX1_kindOf, Cond.instanceMethod yX1_kindOf, Cond.selects RX1 yX1_kindOf yX1_kindOf, Cond.code yX1_kindOf cX1_kindOf 2 (some .int)]
def wsL_row : List Cond := .codeWith yL_row cL_row 5 (some .int) [(0, 10, 13, 46), (0, 10, 17, 13)] :: ((wsL_row_r1 ++ wsL_row_r2) ++ wsX20 ++ wsX10 ++ wsX00 ++ (vx_atS RX2 138 "java/util/NoSuchElementException" ["java/lang/RuntimeException", "java/lang/Exception"]).filter goodWord ++ (vx_atS RX2 55 "java/lang/IllegalArgumentException" ["java/lang/RuntimeException", "java/lang/Exception"]).filter goodWord)
def wsL_find_r1 : List Cond := [Cond.classLink RL 13 "java/lang/IllegalArgumentException", Cond.methodLink RL 48 yX2_find, Cond.instanceMethod yX2_find, Cond.selects RX2 yX2_find yX2_find, Cond.initialized RX2, Cond.code yX2_find cX2_find 3 (some .int), Cond.classLink RX2 51 "java/lang/IllegalArgumentException", Cond.initialized "java/lang/IllegalArgumentException", Cond.fieldLink RX2 40 "StockLog" "rows" "LStockLog$Rows;", Cond.methodLink RX2 75 yX2_refuseOtherKind, Cond.instanceMethod yX2_refuseOtherKind, Cond.selects RX2 yX2_refuseOtherKind yX2_refuseOtherKind, Cond.code yX2_refuseOtherKind cX2_refuseOtherKind 2 none, Cond.methodLink RX2 175 yX2_isKind, Cond.static yX2_isKind, Cond.code yX2_isKind cX2_isKind 1 (some .boolean), Cond.methodLink RX2 152 yX1_numberOf, Cond.instanceMethod yX1_numberOf, Cond.selects RX1 yX1_numberOf yX1_numberOf, Cond.initialized RX1, Cond.code yX1_numberOf cX1_numberOf 5 (some .int), Cond.fieldLink RX1 29 "StockLog$Rows" "last" "I", Cond.methodLink RX1 44 yX1_kindOf, Cond.instanceMethod yX1_kindOf]
def wsL_find_r2 : List Cond := [Cond.selects RX1 yX1_kindOf yX1_kindOf, Cond.code yX1_kindOf cX1_kindOf 2 (some .int), Cond.fieldLink RX1 14 "StockLog$Rows" "image" "LStockLog$Cells;", Cond.fieldLink RX1 20 "StockLog$Rows" "starts" "LStockLog$Cells;", Cond.methodLink RX1 33 yX0_at, Cond.instanceMethod yX0_at, Cond.selects RX0 yX0_at yX0_at, Cond.initialized RX0, Cond.code yX0_at cX0_at 2 (some .int), Cond.fieldLink RX0 15 "StockLog$Cells" "cells" "[I"]
def wsL_find : List Cond := .codeWith yL_find cL_find 5 (some .int) [(0, 10, 13, 13)] :: ((wsL_find_r1 ++ wsL_find_r2) ++ wsX20 ++ wsX10 ++ wsX00 ++ (vx_atS RX2 55 "java/lang/IllegalArgumentException" ["java/lang/RuntimeException", "java/lang/Exception"]).filter goodWord)
def wsL_backup_r1 : List Cond := [Cond.classLink RL 15 "java/lang/IllegalStateException", Cond.methodLink RL 51 yX2_backup, Cond.instanceMethod yX2_backup, Cond.selects RX2 yX2_backup yX2_backup, Cond.initialized RX2, Cond.code yX2_backup cX2_backup 1 (some .int), Cond.fieldLink RX2 31 "StockLog" "kept" "LStockLog$Cells;", Cond.fieldLink RX2 27 "StockLog" "disk" "LStockLog$Cells;", Cond.fieldLink RX2 158 "StockLog" "hasBackup" "Z", Cond.fieldLink RX2 40 "StockLog" "rows" "LStockLog$Rows;", Cond.methodLink RX2 58 yX2_refuseWhenDown, Cond.instanceMethod yX2_refuseWhenDown, Cond.selects RX2 yX2_refuseWhenDown yX2_refuseWhenDown, Cond.code yX2_refuseWhenDown cX2_refuseWhenDown 1 none, Cond.classLink RX2 161 "java/lang/IllegalStateException", Cond.initialized "java/lang/IllegalStateException", Cond.fieldLink RX2 47 "StockLog" "up" "Z", Cond.methodLink RX2 155 yX0_length, Cond.instanceMethod yX0_length, Cond.selects RX0 yX0_length yX0_length, Cond.initialized RX0, Cond.code yX0_length cX0_length 1 (some .int), Cond.fieldLink RX0 15 "StockLog$Cells" "cells" "[I", Cond.methodLink RX2 101 yX0_copy]
def wsL_backup_r2 : List Cond := [Cond.instanceMethod yX0_copy, Cond.selects RX0 yX0_copy yX0_copy, Cond.code yX0_copy cX0_copy 5 none, Cond.methodLink RX0 21 yX0_at, Cond.instanceMethod yX0_at, Cond.selects RX0 yX0_at yX0_at, Cond.code yX0_at cX0_at 2 (some .int), Cond.methodLink RX0 25 yX0_set, Cond.instanceMethod yX0_set, Cond.selects RX0 yX0_set yX0_set, Cond.code yX0_set cX0_set 3 none]
def wsL_backup : List Cond := .codeWith yL_backup cL_backup 3 (some .int) [(0, 8, 11, 15)] :: ((wsL_backup_r1 ++ wsL_backup_r2) ++ wsX20 ++ wsX10 ++ wsX00 ++ (vx_atS RX2 165 "java/lang/IllegalStateException" ["java/lang/RuntimeException", "java/lang/Exception"]).filter goodWord)
def wsL_restore_r1 : List Cond := [Cond.classLink RL 15 "java/lang/IllegalStateException", Cond.methodLink RL 54 yX2_restore, Cond.instanceMethod yX2_restore, Cond.selects RX2 yX2_restore yX2_restore, Cond.initialized RX2, Cond.code yX2_restore cX2_restore 1 (some .int), Cond.classLink RX2 161 "java/lang/IllegalStateException", Cond.initialized "java/lang/IllegalStateException", Cond.fieldLink RX2 158 "StockLog" "hasBackup" "Z", Cond.fieldLink RX2 27 "StockLog" "disk" "LStockLog$Cells;", Cond.fieldLink RX2 31 "StockLog" "kept" "LStockLog$Cells;", Cond.methodLink RX2 155 yX0_length, Cond.instanceMethod yX0_length, Cond.selects RX0 yX0_length yX0_length, Cond.initialized RX0, Cond.code yX0_length cX0_length 1 (some .int), Cond.fieldLink RX0 15 "StockLog$Cells" "cells" "[I", Cond.methodLink RX2 101 yX0_copy, Cond.instanceMethod yX0_copy, Cond.selects RX0 yX0_copy yX0_copy, Cond.code yX0_copy cX0_copy 5 none, Cond.methodLink RX0 21 yX0_at, Cond.instanceMethod yX0_at, Cond.selects RX0 yX0_at yX0_at]
def wsL_restore_r2 : List Cond := [Cond.code yX0_at cX0_at 2 (some .int), Cond.methodLink RX0 25 yX0_set, Cond.instanceMethod yX0_set, Cond.selects RX0 yX0_set yX0_set, Cond.code yX0_set cX0_set 3 none, Cond.methodLink RX2 122 yX2_readDisk, Cond.instanceMethod yX2_readDisk, Cond.selects RX2 yX2_readDisk yX2_readDisk, Cond.code yX2_readDisk cX2_readDisk 1 (some .int), Cond.fieldLink RX2 61 "StockLog" "toldCount" "I", Cond.fieldLink RX2 40 "StockLog" "rows" "LStockLog$Rows;", Cond.fieldLink RX2 44 "StockLog" "foundBehind" "I", Cond.fieldLink RX2 47 "StockLog" "up" "Z", Cond.methodLink RX2 194 yX1_clear, Cond.instanceMethod yX1_clear, Cond.selects RX1 yX1_clear yX1_clear, Cond.initialized RX1, Cond.code yX1_clear cX1_clear 1 none, Cond.fieldLink RX1 75 "StockLog$Rows" "lastOnDisk" "I", Cond.fieldLink RX1 50 "StockLog$Rows" "usedOnDisk" "I", Cond.methodLink RX1 78 yX1_dropMemory, Cond.instanceMethod yX1_dropMemory, Cond.selects RX1 yX1_dropMemory yX1_dropMemory, Cond.code yX1_dropMemory cX1_dropMemory 3 none]
def wsL_restore_r3 : List Cond := [Cond.fieldLink RX1 29 "StockLog$Rows" "last" "I", Cond.fieldLink RX1 23 "StockLog$Rows" "ofKind" "LStockLog$Cells;", Cond.fieldLink RX1 47 "StockLog$Rows" "used" "I", Cond.methodLink RX1 44 yX1_kindOf, Cond.instanceMethod yX1_kindOf, Cond.selects RX1 yX1_kindOf yX1_kindOf, Cond.code yX1_kindOf cX1_kindOf 2 (some .int), Cond.fieldLink RX1 14 "StockLog$Rows" "image" "LStockLog$Cells;", Cond.fieldLink RX1 20 "StockLog$Rows" "starts" "LStockLog$Cells;", Cond.methodLink RX1 33 yX0_at, Cond.methodLink RX1 53 yX0_set, Cond.methodLink RX2 197 yX1_read, Cond.instanceMethod yX1_read, Cond.selects RX1 yX1_read yX1_read, Cond.code yX1_read cX1_read 5 (some .int), Cond.methodLink RX1 81 yX1_judgeNext, Cond.instanceMethod yX1_judgeNext, Cond.selects RX1 yX1_judgeNext yX1_judgeNext, Cond.code yX1_judgeNext cX1_judgeNext 3 (some .int), Cond.methodLink RX1 93 yX0_isZeroFrom, Cond.instanceMethod yX0_isZeroFrom, Cond.selects RX0 yX0_isZeroFrom yX0_isZeroFrom, Cond.code yX0_isZeroFrom cX0_isZeroFrom 3 (some .boolean), Cond.methodLink RX1 85 yX0_length]
def wsL_restore_r4 : List Cond := [Cond.static yX2_isKind, Cond.code yX2_isKind cX2_isKind 1 (some .boolean), Cond.methodLink RX1 100 yX0_numberAt, Cond.instanceMethod yX0_numberAt, Cond.selects RX0 yX0_numberAt yX0_numberAt, Cond.code yX0_numberAt cX0_numberAt 5 (some .int), Cond.static yX2_sumOfRow, Cond.code yX2_sumOfRow cX2_sumOfRow 7 (some .int), Cond.constant RX2 201 (-2048144777), Cond.methodLink RX2 115 yX0_at, Cond.methodLink RX1 103 yX1_isState, Cond.instanceMethod yX1_isState, Cond.selects RX1 yX1_isState yX1_isState, Cond.code yX1_isState cX1_isState 5 (some .boolean), Cond.methodLink RX1 89 yX0_copy, Cond.methodLink RX1 65 yX1_enlistNext, Cond.instanceMethod yX1_enlistNext, Cond.selects RX1 yX1_enlistNext yX1_enlistNext, Cond.code yX1_enlistNext cX1_enlistNext 2 none, Cond.methodLink RX1 37 yX1_lengthOf, Cond.instanceMethod yX1_lengthOf, Cond.selects RX1 yX1_lengthOf yX1_lengthOf, Cond.code yX1_lengthOf cX1_lengthOf 2 (some .int), Cond.methodLink RX2 105 yX1_markAllOnDisk]
def wsL_restore_r5 : List Cond := [Cond.instanceMethod yX1_markAllOnDisk, Cond.selects RX1 yX1_markAllOnDisk yX1_markAllOnDisk, Cond.code yX1_markAllOnDisk cX1_markAllOnDisk 1 none]
def wsL_restore : List Cond := .codeWith yL_restore cL_restore 3 (some .int) [(0, 8, 11, 15)] :: ((wsL_restore_r1 ++ (wsL_restore_r2 ++ (wsL_restore_r3 ++ (wsL_restore_r4 ++ wsL_restore_r5)))) ++ wsX20 ++ wsX00 ++ wsX10 ++ (vx_atS RX2 165 "java/lang/IllegalStateException" ["java/lang/RuntimeException", "java/lang/Exception"]).filter goodWord)
def wsL_total_r1 : List Cond := [Cond.classLink RL 13 "java/lang/IllegalArgumentException", Cond.methodLink RL 57 yX2_total, Cond.instanceMethod yX2_total, Cond.selects RX2 yX2_total yX2_total, Cond.initialized RX2, Cond.code yX2_total cX2_total 8 (some .int), Cond.methodLink RX2 15 Lib.Math.max.name, Cond.static Lib.Math.max.name, Cond.initialized "java/lang/Math", Cond.code Lib.Math.max.name Lib.Math.max.code 2 (some .int), Cond.fieldLink RX2 40 "StockLog" "rows" "LStockLog$Rows;", Cond.methodLink RX2 9 Lib.Math.min.name, Cond.static Lib.Math.min.name, Cond.code Lib.Math.min.name Lib.Math.min.code 2 (some .int), Cond.methodLink RX2 75 yX2_refuseOtherKind, Cond.instanceMethod yX2_refuseOtherKind, Cond.selects RX2 yX2_refuseOtherKind yX2_refuseOtherKind, Cond.code yX2_refuseOtherKind cX2_refuseOtherKind 2 none, Cond.classLink RX2 51 "java/lang/IllegalArgumentException", Cond.initialized "java/lang/IllegalArgumentException", Cond.methodLink RX2 175 yX2_isKind, Cond.static yX2_isKind, Cond.code yX2_isKind cX2_isKind 1 (some .boolean), Cond.methodLink RX2 142 yX1_kindOf]
def wsL_total_r2 : List Cond := [Cond.instanceMethod yX1_kindOf, Cond.selects RX1 yX1_kindOf yX1_kindOf, Cond.initialized RX1, Cond.code yX1_kindOf cX1_kindOf 2 (some .int), Cond.fieldLink RX1 14 "StockLog$Rows" "image" "LStockLog$Cells;", Cond.fieldLink RX1 20 "StockLog$Rows" "starts" "LStockLog$Cells;", Cond.methodLink RX1 33 yX0_at, Cond.instanceMethod yX0_at, Cond.selects RX0 yX0_at yX0_at, Cond.initialized RX0, Cond.code yX0_at cX0_at 2 (some .int), Cond.fieldLink RX0 15 "StockLog$Cells" "cells" "[I", Cond.methodLink RX2 169 yX1_sumOfBytes, Cond.instanceMethod yX1_sumOfBytes, Cond.selects RX1 yX1_sumOfBytes yX1_sumOfBytes, Cond.code yX1_sumOfBytes cX1_sumOfBytes 5 (some .int), Cond.methodLink RX1 37 yX1_lengthOf, Cond.instanceMethod yX1_lengthOf, Cond.selects RX1 yX1_lengthOf yX1_lengthOf, Cond.code yX1_lengthOf cX1_lengthOf 2 (some .int), Cond.methodLink RX1 40 yX1_byteAt, Cond.instanceMethod yX1_byteAt, Cond.selects RX1 yX1_byteAt yX1_byteAt, Cond.code yX1_byteAt cX1_byteAt 3 (some .int)]
def wsL_total : List Cond := .codeWith yL_total cL_total 6 (some .int) [(0, 12, 15, 13)] :: ((wsL_total_r1 ++ wsL_total_r2) ++ wsX20 ++ wsX10 ++ wsX00 ++ (vx_atS RX2 55 "java/lang/IllegalArgumentException" ["java/lang/RuntimeException", "java/lang/Exception"]).filter goodWord)
def wsL_law0_r1 : List Cond := [Cond.classLink RL 8 RX2, Cond.instantiable RX2 9, Cond.initialized RX2, Cond.classLink RL 69 RX3, Cond.instantiable RX3 13, Cond.initialized RX3, Cond.arrayClass .long, Cond.methodLink RL 60 yL_cell, Cond.static yL_cell, Cond.initialized RL, Cond.code yL_cell cL_cell 2 (some .int), Cond.methodLink RL 66 yX2_init, Cond.instanceMethod yX2_init, Cond.code yX2_init cX2_init 3 none, Cond.methodLink RX2 3 objectInit, Cond.instanceMethod objectInit, Cond.code objectInit ⟨#[0xb1]⟩ 1 none, Cond.methodLink RX2 9 Lib.Math.min.name, Cond.static Lib.Math.min.name, Cond.initialized "java/lang/Math", Cond.code Lib.Math.min.name Lib.Math.min.code 2 (some .int), Cond.methodLink RX2 15 Lib.Math.max.name, Cond.static Lib.Math.max.name, Cond.code Lib.Math.max.name Lib.Math.max.code 2 (some .int)]
def wsL_law0_r2 : List Cond := [Cond.fieldLink RX2 18 "StockLog" "sectors" "I", Cond.classLink RX2 22 RX0, Cond.instantiable RX0 1, Cond.initialized RX0, Cond.fieldLink RX2 27 "StockLog" "disk" "LStockLog$Cells;", Cond.fieldLink RX2 31 "StockLog" "kept" "LStockLog$Cells;", Cond.fieldLink RX2 34 "StockLog" "told" "LStockLog$Cells;", Cond.classLink RX2 37 RX1, Cond.instantiable RX1 8, Cond.initialized RX1, Cond.fieldLink RX2 40 "StockLog" "rows" "LStockLog$Rows;", Cond.fieldLink RX2 44 "StockLog" "foundBehind" "I", Cond.fieldLink RX2 47 "StockLog" "up" "Z", Cond.methodLink RX2 24 yX0_init, Cond.instanceMethod yX0_init, Cond.code yX0_init cX0_init 2 none, Cond.methodLink RX0 3 objectInit, Cond.methodLink RX0 9 Lib.Math.max.name, Cond.arrayClass .int, Cond.fieldLink RX0 15 "StockLog$Cells" "cells" "[I", Cond.methodLink RX2 39 yX1_init, Cond.instanceMethod yX1_init, Cond.code yX1_init cX1_init 2 none, Cond.methodLink RX1 3 objectInit]
def wsL_law0_r3 : List Cond := [Cond.classLink RX1 9 RX0, Cond.fieldLink RX1 14 "StockLog$Rows" "image" "LStockLog$Cells;", Cond.fieldLink RX1 20 "StockLog$Rows" "starts" "LStockLog$Cells;", Cond.fieldLink RX1 23 "StockLog$Rows" "ofKind" "LStockLog$Cells;", Cond.fieldLink RX1 26 "StockLog$Rows" "state" "LStockLog$Cells;", Cond.methodLink RX1 11 yX0_init, Cond.methodLink RL 71 yX3_init, Cond.instanceMethod yX3_init, Cond.code yX3_init cX3_init 2 none, Cond.methodLink RX3 1 objectInit, Cond.fieldLink RX3 7 "StockLogModel" "disk" "[I", Cond.fieldLink RX3 13 "StockLogModel" "saved" "[I", Cond.fieldLink RX3 16 "StockLogModel" "up" "Z", Cond.fieldLink RX3 20 "StockLogModel" "image" "[I", Cond.fieldLink RX3 23 "StockLogModel" "begin" "[I", Cond.fieldLink RX3 26 "StockLogModel" "told" "[I", Cond.fieldLink RX3 29 "StockLogModel" "size" "I", Cond.methodLink RL 72 yL_add, Cond.static yL_add, Cond.codeWith yL_add cL_add 4 (some .int) [(0, 9, 12, 13), (0, 9, 15, 15), (0, 9, 18, 17)], Cond.classLink RL 13 "java/lang/IllegalArgumentException", Cond.classLink RL 15 "java/lang/IllegalStateException", Cond.classLink RL 17 "java/lang/UnsupportedOperationException", Cond.methodLink RL 7 yX2_add]
def wsL_law0_r4 : List Cond := [Cond.instanceMethod yX2_add, Cond.selects RX2 yX2_add yX2_add, Cond.code yX2_add cX2_add 2 (some .int), Cond.classLink RX2 51 "java/lang/IllegalArgumentException", Cond.initialized "java/lang/IllegalArgumentException", Cond.classLink RX2 64 "java/lang/UnsupportedOperationException", Cond.initialized "java/lang/UnsupportedOperationException", Cond.fieldLink RX2 61 "StockLog" "toldCount" "I", Cond.methodLink RX2 58 yX2_refuseWhenDown, Cond.instanceMethod yX2_refuseWhenDown, Cond.selects RX2 yX2_refuseWhenDown yX2_refuseWhenDown, Cond.code yX2_refuseWhenDown cX2_refuseWhenDown 1 none, Cond.classLink RX2 161 "java/lang/IllegalStateException", Cond.initialized "java/lang/IllegalStateException", Cond.methodLink RX2 69 yX0_set, Cond.instanceMethod yX0_set, Cond.selects RX0 yX0_set yX0_set, Cond.code yX0_set cX0_set 3 none, Cond.methodLink RL 75 yX3_add, Cond.instanceMethod yX3_add, Cond.selects RX3 yX3_add yX3_add, Cond.code yX3_add cX3_add 2 (some .int), Cond.fieldLink RX3 52 "StockLogModel" "toldMany" "I", Cond.fieldLink RX3 33 "StockLogModel" "thrown" "I"]
def wsL_law0_r5 : List Cond := [Cond.methodLink RX3 48 yX3_within, Cond.static yX3_within, Cond.code yX3_within cX3_within 3 (some .boolean), Cond.methodLink RL 76 yX3_thrown, Cond.instanceMethod yX3_thrown, Cond.selects RX3 yX3_thrown yX3_thrown, Cond.code yX3_thrown cX3_thrown 1 (some .int), Cond.methodLink RL 79 yL_end, Cond.static yL_end, Cond.codeWith yL_end cL_end 4 (some .int) [(0, 9, 12, 13), (0, 9, 15, 15), (0, 9, 18, 17)], Cond.methodLink RL 19 yX2_end, Cond.instanceMethod yX2_end, Cond.selects RX2 yX2_end yX2_end, Cond.code yX2_end cX2_end 3 (some .int), Cond.methodLink RX2 75 yX2_refuseOtherKind, Cond.instanceMethod yX2_refuseOtherKind, Cond.selects RX2 yX2_refuseOtherKind yX2_refuseOtherKind, Cond.code yX2_refuseOtherKind cX2_refuseOtherKind 2 none, Cond.methodLink RX2 175 yX2_isKind, Cond.static yX2_isKind, Cond.code yX2_isKind cX2_isKind 1 (some .boolean), Cond.methodLink RX2 78 yX2_refuseWhenFull, Cond.instanceMethod yX2_refuseWhenFull, Cond.selects RX2 yX2_refuseWhenFull yX2_refuseWhenFull]
def wsL_law0_r6 : List Cond := [Cond.code yX2_refuseWhenFull cX2_refuseWhenFull 2 none, Cond.methodLink RX2 155 yX0_length, Cond.instanceMethod yX0_length, Cond.selects RX0 yX0_length yX0_length, Cond.code yX0_length cX0_length 1 (some .int), Cond.methodLink RX2 81 yX1_write, Cond.instanceMethod yX1_write, Cond.selects RX1 yX1_write yX1_write, Cond.code yX1_write cX1_write 5 (some .int), Cond.fieldLink RX1 47 "StockLog$Rows" "used" "I", Cond.fieldLink RX1 29 "StockLog$Rows" "last" "I", Cond.methodLink RX1 53 yX0_set, Cond.methodLink RX1 57 yX0_setNumber, Cond.instanceMethod yX0_setNumber, Cond.selects RX0 yX0_setNumber yX0_setNumber, Cond.code yX0_setNumber cX0_setNumber 6 none, Cond.methodLink RX0 25 yX0_set, Cond.methodLink RX1 33 yX0_at, Cond.instanceMethod yX0_at, Cond.selects RX0 yX0_at yX0_at, Cond.code yX0_at cX0_at 2 (some .int), Cond.static yX2_sumOfRow, Cond.code yX2_sumOfRow cX2_sumOfRow 7 (some .int), Cond.constant RX2 201 (-2048144777)]
def wsL_law0_r7 : List Cond := [Cond.methodLink RX2 115 yX0_at, Cond.methodLink RX1 65 yX1_enlistNext, Cond.instanceMethod yX1_enlistNext, Cond.selects RX1 yX1_enlistNext yX1_enlistNext, Cond.code yX1_enlistNext cX1_enlistNext 2 none, Cond.methodLink RX1 44 yX1_kindOf, Cond.instanceMethod yX1_kindOf, Cond.selects RX1 yX1_kindOf yX1_kindOf, Cond.code yX1_kindOf cX1_kindOf 2 (some .int), Cond.methodLink RX1 37 yX1_lengthOf, Cond.instanceMethod yX1_lengthOf, Cond.selects RX1 yX1_lengthOf yX1_lengthOf, Cond.code yX1_lengthOf cX1_lengthOf 2 (some .int), Cond.methodLink RL 81 yX3_end, Cond.instanceMethod yX3_end, Cond.selects RX3 yX3_end yX3_end, Cond.code yX3_end cX3_end 4 (some .int), Cond.fieldLink RX3 41 "StockLogModel" "rows" "I", Cond.methodLink RX3 55 yX3_isFull, Cond.instanceMethod yX3_isFull, Cond.selects RX3 yX3_isFull yX3_isFull, Cond.code yX3_isFull cX3_isFull 2 (some .boolean), Cond.methodLink RX3 59 yX3_head, Cond.instanceMethod yX3_head]
def wsL_law0_r8 : List Cond := [Cond.selects RX3 yX3_head yX3_head, Cond.code yX3_head cX3_head 4 (some .int), Cond.methodLink RX3 63 yX3_close, Cond.instanceMethod yX3_close, Cond.selects RX3 yX3_close yX3_close, Cond.code yX3_close cX3_close 4 none, Cond.methodLink RX3 44 yX3_sumOf, Cond.static yX3_sumOf, Cond.code yX3_sumOf cX3_sumOf 5 (some .int), Cond.constant RX3 40 (-2048144777), Cond.methodLink RL 82 yL_whole, Cond.static yL_whole, Cond.codeWith yL_whole cL_whole 3 (some .int) [(0, 8, 11, 15), (0, 8, 14, 17)], Cond.methodLink RL 22 yX2_whole, Cond.instanceMethod yX2_whole, Cond.selects RX2 yX2_whole yX2_whole, Cond.code yX2_whole cX2_whole 1 (some .int), Cond.methodLink RX2 85 yX1_writeState, Cond.instanceMethod yX1_writeState, Cond.selects RX1 yX1_writeState yX1_writeState, Cond.code yX1_writeState cX1_writeState 1 (some .int), Cond.methodLink RX1 68 yX1_fillState, Cond.instanceMethod yX1_fillState, Cond.selects RX1 yX1_fillState yX1_fillState]
def wsL_law0_r9 : List Cond := [Cond.code yX1_fillState cX1_fillState 2 none, Cond.methodLink RX1 71 yX1_write, Cond.methodLink RL 85 yX3_whole, Cond.instanceMethod yX3_whole, Cond.selects RX3 yX3_whole yX3_whole, Cond.code yX3_whole cX3_whole 4 (some .int), Cond.methodLink RX3 67 yX3_rowsOf, Cond.instanceMethod yX3_rowsOf, Cond.selects RX3 yX3_rowsOf yX3_rowsOf, Cond.code yX3_rowsOf cX3_rowsOf 5 (some .int), Cond.methodLink RX3 36 yX3_kindOf, Cond.instanceMethod yX3_kindOf, Cond.selects RX3 yX3_kindOf yX3_kindOf, Cond.code yX3_kindOf cX3_kindOf 2 (some .int), Cond.methodLink RL 86 yL_sync, Cond.static yL_sync, Cond.codeWith yL_sync cL_sync 3 (some .int) [(0, 8, 11, 15)], Cond.methodLink RL 26 yX2_sync, Cond.instanceMethod yX2_sync, Cond.selects RX2 yX2_sync yX2_sync, Cond.code yX2_sync cX2_sync 2 (some .int), Cond.methodLink RX2 101 yX0_copy, Cond.instanceMethod yX0_copy, Cond.selects RX0 yX0_copy yX0_copy]
def wsL_law0_r10 : List Cond := [Cond.code yX0_copy cX0_copy 5 none, Cond.methodLink RX0 21 yX0_at, Cond.methodLink RX2 105 yX1_markAllOnDisk, Cond.instanceMethod yX1_markAllOnDisk, Cond.selects RX1 yX1_markAllOnDisk yX1_markAllOnDisk, Cond.code yX1_markAllOnDisk cX1_markAllOnDisk 1 none, Cond.fieldLink RX1 75 "StockLog$Rows" "lastOnDisk" "I", Cond.fieldLink RX1 50 "StockLog$Rows" "usedOnDisk" "I", Cond.methodLink RL 88 yX3_sync, Cond.instanceMethod yX3_sync, Cond.selects RX3 yX3_sync yX3_sync, Cond.code yX3_sync cX3_sync 2 (some .int), Cond.fieldLink RX3 70 "StockLogModel" "synced" "I", Cond.methodLink RL 89 yL_cut, Cond.static yL_cut, Cond.codeWith yL_cut cL_cut 4 (some .int) [(0, 6, 9, 13), (0, 6, 12, 15)], Cond.methodLink RL 29 yX2_cut, Cond.instanceMethod yX2_cut, Cond.selects RX2 yX2_cut yX2_cut, Cond.code yX2_cut cX2_cut 4 none, Cond.methodLink RX2 108 yX1_bytesInMemory, Cond.instanceMethod yX1_bytesInMemory, Cond.selects RX1 yX1_bytesInMemory yX1_bytesInMemory, Cond.code yX1_bytesInMemory cX1_bytesInMemory 1 (some .int)]
def wsL_law0_r11 : List Cond := [Cond.methodLink RX2 119 yX1_dropMemory, Cond.instanceMethod yX1_dropMemory, Cond.selects RX1 yX1_dropMemory yX1_dropMemory, Cond.code yX1_dropMemory cX1_dropMemory 3 none, Cond.methodLink RL 92 yX3_cut, Cond.instanceMethod yX3_cut, Cond.selects RX3 yX3_cut yX3_cut, Cond.code yX3_cut cX3_cut 5 none, Cond.methodLink RX3 73 yX3_inMemory, Cond.instanceMethod yX3_inMemory, Cond.selects RX3 yX3_inMemory yX3_inMemory, Cond.code yX3_inMemory cX3_inMemory 1 (some .int), Cond.methodLink RL 93 yX2_start, Cond.instanceMethod yX2_start, Cond.selects RX2 yX2_start yX2_start, Cond.code yX2_start cX2_start 1 (some .int), Cond.methodLink RX2 122 yX2_readDisk, Cond.instanceMethod yX2_readDisk, Cond.selects RX2 yX2_readDisk yX2_readDisk, Cond.code yX2_readDisk cX2_readDisk 1 (some .int), Cond.methodLink RX2 194 yX1_clear, Cond.instanceMethod yX1_clear, Cond.selects RX1 yX1_clear yX1_clear, Cond.code yX1_clear cX1_clear 1 none]
def wsL_law0_r12 : List Cond := [Cond.methodLink RX1 78 yX1_dropMemory, Cond.methodLink RX2 197 yX1_read, Cond.instanceMethod yX1_read, Cond.selects RX1 yX1_read yX1_read, Cond.code yX1_read cX1_read 5 (some .int), Cond.methodLink RX1 81 yX1_judgeNext, Cond.instanceMethod yX1_judgeNext, Cond.selects RX1 yX1_judgeNext yX1_judgeNext, Cond.code yX1_judgeNext cX1_judgeNext 3 (some .int), Cond.methodLink RX1 93 yX0_isZeroFrom, Cond.instanceMethod yX0_isZeroFrom, Cond.selects RX0 yX0_isZeroFrom yX0_isZeroFrom, Cond.code yX0_isZeroFrom cX0_isZeroFrom 3 (some .boolean), Cond.methodLink RX1 85 yX0_length, Cond.methodLink RX1 100 yX0_numberAt, Cond.instanceMethod yX0_numberAt, Cond.selects RX0 yX0_numberAt yX0_numberAt, Cond.code yX0_numberAt cX0_numberAt 5 (some .int), Cond.methodLink RX1 103 yX1_isState, Cond.instanceMethod yX1_isState, Cond.selects RX1 yX1_isState yX1_isState, Cond.code yX1_isState cX1_isState 5 (some .boolean), Cond.methodLink RX1 89 yX0_copy, Cond.methodLink RL 96 yX3_start]
def wsL_law0_r13 : List Cond := [Cond.instanceMethod yX3_start, Cond.selects RX3 yX3_start yX3_start, Cond.code yX3_start cX3_start 1 (some .int), Cond.methodLink RX3 87 yX3_read, Cond.instanceMethod yX3_read, Cond.selects RX3 yX3_read yX3_read, Cond.code yX3_read cX3_read 5 none, Cond.fieldLink RX3 84 "StockLogModel" "wrong" "I", Cond.methodLink RX3 81 yX3_look, Cond.instanceMethod yX3_look, Cond.selects RX3 yX3_look yX3_look, Cond.code yX3_look cX3_look 6 (some .int), Cond.methodLink RX3 77 yX3_countsRight, Cond.instanceMethod yX3_countsRight, Cond.selects RX3 yX3_countsRight yX3_countsRight, Cond.code yX3_countsRight cX3_countsRight 4 (some .boolean), Cond.methodLink RL 97 yL_poke, Cond.static yL_poke, Cond.codeWith yL_poke cL_poke 6 (some .int) [(0, 12, 15, 13), (0, 12, 19, 37)], Cond.methodLink RL 33 yX2_poke, Cond.instanceMethod yX2_poke, Cond.selects RX2 yX2_poke yX2_poke, Cond.code yX2_poke cX2_poke 5 (some .int), Cond.methodLink RX2 127 yX2_placeOf]
def wsL_law0_r14 : List Cond := [Cond.instanceMethod yX2_placeOf, Cond.selects RX2 yX2_placeOf yX2_placeOf, Cond.code yX2_placeOf cX2_placeOf 3 (some .int), Cond.classLink RX2 184 RJx00060, Cond.instantiable RJx00060 6, Cond.initialized RJx00060, Cond.methodLink RL 100 yX3_poke, Cond.instanceMethod yX3_poke, Cond.selects RX3 yX3_poke yX3_poke, Cond.code yX3_poke cX3_poke 4 (some .int), Cond.methodLink RX3 90 yX3_isByte, Cond.instanceMethod yX3_isByte, Cond.selects RX3 yX3_isByte yX3_isByte, Cond.code yX3_isByte cX3_isByte 3 (some .boolean), Cond.methodLink RL 101 yL_byteOf, Cond.static yL_byteOf, Cond.codeWith yL_byteOf cL_byteOf 5 (some .int) [(0, 10, 13, 37)], Cond.methodLink RL 39 yX2_byteOf, Cond.instanceMethod yX2_byteOf, Cond.selects RX2 yX2_byteOf yX2_byteOf, Cond.code yX2_byteOf cX2_byteOf 3 (some .int), Cond.methodLink RL 104 yX3_byteOf, Cond.instanceMethod yX3_byteOf, Cond.selects RX3 yX3_byteOf yX3_byteOf]
def wsL_law0_r15 : List Cond := [Cond.code yX3_byteOf cX3_byteOf 3 (some .int), Cond.methodLink RL 105 yL_row, Cond.static yL_row, Cond.codeWith yL_row cL_row 5 (some .int) [(0, 10, 13, 46), (0, 10, 17, 13)], Cond.classLink RL 46 "java/util/NoSuchElementException", Cond.methodLink RL 43 yX2_row, Cond.instanceMethod yX2_row, Cond.selects RX2 yX2_row yX2_row, Cond.code yX2_row cX2_row 3 (some .int), Cond.classLink RX2 134 "java/util/NoSuchElementException", Cond.initialized "java/util/NoSuchElementException", Cond.methodLink RX2 130 yX1_has, Cond.instanceMethod yX1_has, Cond.selects RX1 yX1_has yX1_has, Cond.code yX1_has cX1_has 2 (some .boolean), Cond.methodLink RX2 139 yX2_byteOfRow, Cond.instanceMethod yX2_byteOfRow, Cond.selects RX2 yX2_byteOfRow yX2_byteOfRow, Cond.code yX2_byteOfRow cX2_byteOfRow 3 (some .int), Cond.methodLink RX2 145 yX1_lengthOf, Cond.methodLink RX2 191 yX1_byteAt, Cond.instanceMethod yX1_byteAt, Cond.selects RX1 yX1_byteAt yX1_byteAt, Cond.code yX1_byteAt cX1_byteAt 3 (some .int)]
def wsL_law0_r16 : List Cond := [Cond.methodLink RX2 142 yX1_kindOf, Cond.methodLink RL 107 yX3_row, Cond.instanceMethod yX3_row, Cond.selects RX3 yX3_row yX3_row, Cond.code yX3_row cX3_row 5 (some .int), Cond.methodLink RX3 96 yX3_longOf, Cond.instanceMethod yX3_longOf, Cond.selects RX3 yX3_longOf yX3_longOf, Cond.code yX3_longOf cX3_longOf 2 (some .int), Cond.methodLink RL 108 yL_find, Cond.static yL_find, Cond.codeWith yL_find cL_find 5 (some .int) [(0, 10, 13, 13)], Cond.methodLink RL 48 yX2_find, Cond.instanceMethod yX2_find, Cond.selects RX2 yX2_find yX2_find, Cond.code yX2_find cX2_find 3 (some .int), Cond.methodLink RX2 152 yX1_numberOf, Cond.instanceMethod yX1_numberOf, Cond.selects RX1 yX1_numberOf yX1_numberOf, Cond.code yX1_numberOf cX1_numberOf 5 (some .int), Cond.methodLink RL 110 yX3_find, Cond.instanceMethod yX3_find, Cond.selects RX3 yX3_find yX3_find, Cond.code yX3_find cX3_find 5 (some .int)]
def wsL_law0_r17 : List Cond := [Cond.methodLink RL 111 yX2_wrong, Cond.instanceMethod yX2_wrong, Cond.selects RX2 yX2_wrong yX2_wrong, Cond.code yX2_wrong cX2_wrong 1 (some .int), Cond.methodLink RL 114 yX3_wrong, Cond.instanceMethod yX3_wrong, Cond.selects RX3 yX3_wrong yX3_wrong, Cond.code yX3_wrong cX3_wrong 1 (some .int), Cond.methodLink RL 115 yL_backup, Cond.static yL_backup, Cond.codeWith yL_backup cL_backup 3 (some .int) [(0, 8, 11, 15)], Cond.methodLink RL 51 yX2_backup, Cond.instanceMethod yX2_backup, Cond.selects RX2 yX2_backup yX2_backup, Cond.code yX2_backup cX2_backup 1 (some .int), Cond.fieldLink RX2 158 "StockLog" "hasBackup" "Z", Cond.methodLink RL 117 yX3_backup, Cond.instanceMethod yX3_backup, Cond.selects RX3 yX3_backup yX3_backup, Cond.code yX3_backup cX3_backup 2 (some .int), Cond.fieldLink RX3 93 "StockLogModel" "hasBackup" "Z", Cond.methodLink RL 118 yL_restore, Cond.static yL_restore, Cond.codeWith yL_restore cL_restore 3 (some .int) [(0, 8, 11, 15)]]
def wsL_law0_r18 : List Cond := [Cond.methodLink RL 54 yX2_restore, Cond.instanceMethod yX2_restore, Cond.selects RX2 yX2_restore yX2_restore, Cond.code yX2_restore cX2_restore 1 (some .int), Cond.methodLink RL 120 yX3_restore, Cond.instanceMethod yX3_restore, Cond.selects RX3 yX3_restore yX3_restore, Cond.code yX3_restore cX3_restore 2 (some .int), Cond.methodLink RL 121 yL_total, Cond.static yL_total, Cond.codeWith yL_total cL_total 6 (some .int) [(0, 12, 15, 13)], Cond.methodLink RL 57 yX2_total, Cond.instanceMethod yX2_total, Cond.selects RX2 yX2_total yX2_total, Cond.code yX2_total cX2_total 8 (some .int), Cond.methodLink RX2 169 yX1_sumOfBytes, Cond.instanceMethod yX1_sumOfBytes, Cond.selects RX1 yX1_sumOfBytes yX1_sumOfBytes, Cond.code yX1_sumOfBytes cX1_sumOfBytes 5 (some .int), Cond.methodLink RX1 40 yX1_byteAt, Cond.methodLink RL 123 yX3_total, Cond.instanceMethod yX3_total, Cond.selects RX3 yX3_total yX3_total, Cond.code yX3_total cX3_total 7 (some .int)]
def wsL_law0_r19 : List Cond := [Cond.methodLink RL 124 yX2_count, Cond.instanceMethod yX2_count, Cond.selects RX2 yX2_count yX2_count, Cond.code yX2_count cX2_count 2 (some .int), Cond.methodLink RL 127 yX3_count, Cond.instanceMethod yX3_count, Cond.selects RX3 yX3_count yX3_count, Cond.code yX3_count cX3_count 2 (some .int)]
def wsL_law0 : List Cond := (wsL_law0_r1 ++ (wsL_law0_r2 ++ (wsL_law0_r3 ++ (wsL_law0_r4 ++ (wsL_law0_r5 ++ (wsL_law0_r6 ++ (wsL_law0_r7 ++ (wsL_law0_r8 ++ (wsL_law0_r9 ++ (wsL_law0_r10 ++ (wsL_law0_r11 ++ (wsL_law0_r12 ++ (wsL_law0_r13 ++ (wsL_law0_r14 ++ (wsL_law0_r15 ++ (wsL_law0_r16 ++ (wsL_law0_r17 ++ (wsL_law0_r18 ++ wsL_law0_r19)))))))))))))))))) ++ wsX20 ++ wsX30 ++ wsX00 ++ wsX10 ++ wsJx000600 ++ ([] : List Cond)
def wsL_law : List Cond := wsL_law0 ++ (vx_atS RX2 55 "java/lang/IllegalArgumentException" ["java/lang/RuntimeException", "java/lang/Exception"]).filter goodWord ++ (vx_atS RX2 68 "java/lang/UnsupportedOperationException" ["java/lang/RuntimeException", "java/lang/Exception"]).filter goodWord ++ (vx_atS RX2 165 "java/lang/IllegalStateException" ["java/lang/RuntimeException", "java/lang/Exception"]).filter goodWord ++ (vx_atS RX2 138 "java/util/NoSuchElementException" ["java/lang/RuntimeException", "java/lang/Exception"]).filter goodWord
end
section
theorem dX0_init_0 : decode cX0_init 0 = .ok (.aload_n 0, 1) := by decide +kernel
theorem dX0_init_1 : decode cX0_init 1 = .ok (.invokespecial 3, 3) := by decide +kernel
theorem dX0_init_4 : decode cX0_init 4 = .ok (.aload_n 0, 1) := by decide +kernel
theorem dX0_init_5 : decode cX0_init 5 = .ok (.iconst 0, 1) := by decide +kernel
theorem dX0_init_6 : decode cX0_init 6 = .ok (.iload_n 1, 1) := by decide +kernel
theorem dX0_init_7 : decode cX0_init 7 = .ok (.invokestatic 9, 3) := by decide +kernel
theorem dX0_init_10 : decode cX0_init 10 = .ok (.newarray .int, 2) := by decide +kernel
theorem dX0_init_12 : decode cX0_init 12 = .ok (.putfield 15, 3) := by decide +kernel
theorem dX0_init_15 : decode cX0_init 15 = .ok (.return_, 1) := by decide +kernel
theorem dX0_length_0 : decode cX0_length 0 = .ok (.aload_n 0, 1) := by decide +kernel
theorem dX0_length_1 : decode cX0_length 1 = .ok (.getfield 15, 3) := by decide +kernel
theorem dX0_length_4 : decode cX0_length 4 = .ok (.arraylength, 1) := by decide +kernel
theorem dX0_length_5 : decode cX0_length 5 = .ok (.ireturn, 1) := by decide +kernel
theorem dX0_at_0 : decode cX0_at 0 = .ok (.iload_n 1, 1) := by decide +kernel
theorem dX0_at_1 : decode cX0_at 1 = .ok (.ifCond .lt 21, 3) := by decide +kernel
theorem dX0_at_4 : decode cX0_at 4 = .ok (.iload_n 1, 1) := by decide +kernel
theorem dX0_at_5 : decode cX0_at 5 = .ok (.aload_n 0, 1) := by decide +kernel
theorem dX0_at_6 : decode cX0_at 6 = .ok (.getfield 15, 3) := by decide +kernel
theorem dX0_at_9 : decode cX0_at 9 = .ok (.arraylength, 1) := by decide +kernel
theorem dX0_at_10 : decode cX0_at 10 = .ok (.if_icmp .ge 12, 3) := by decide +kernel
theorem dX0_at_13 : decode cX0_at 13 = .ok (.aload_n 0, 1) := by decide +kernel
theorem dX0_at_14 : decode cX0_at 14 = .ok (.getfield 15, 3) := by decide +kernel
theorem dX0_at_17 : decode cX0_at 17 = .ok (.iload_n 1, 1) := by decide +kernel
theorem dX0_at_18 : decode cX0_at 18 = .ok (.iaload, 1) := by decide +kernel
theorem dX0_at_19 : decode cX0_at 19 = .ok (.goto 4, 3) := by decide +kernel
theorem dX0_at_22 : decode cX0_at 22 = .ok (.iconst 0, 1) := by decide +kernel
theorem dX0_at_23 : decode cX0_at 23 = .ok (.ireturn, 1) := by decide +kernel
theorem dX0_set_0 : decode cX0_set 0 = .ok (.iload_n 1, 1) := by decide +kernel
theorem dX0_set_1 : decode cX0_set 1 = .ok (.ifCond .lt 19, 3) := by decide +kernel
theorem dX0_set_4 : decode cX0_set 4 = .ok (.iload_n 1, 1) := by decide +kernel
theorem dX0_set_5 : decode cX0_set 5 = .ok (.aload_n 0, 1) := by decide +kernel
theorem dX0_set_6 : decode cX0_set 6 = .ok (.getfield 15, 3) := by decide +kernel
theorem dX0_set_9 : decode cX0_set 9 = .ok (.arraylength, 1) := by decide +kernel
theorem dX0_set_10 : decode cX0_set 10 = .ok (.if_icmp .ge 10, 3) := by decide +kernel
theorem dX0_set_13 : decode cX0_set 13 = .ok (.aload_n 0, 1) := by decide +kernel
theorem dX0_set_14 : decode cX0_set 14 = .ok (.getfield 15, 3) := by decide +kernel
theorem dX0_set_17 : decode cX0_set 17 = .ok (.iload_n 1, 1) := by decide +kernel
theorem dX0_set_18 : decode cX0_set 18 = .ok (.iload_n 2, 1) := by decide +kernel
theorem dX0_set_19 : decode cX0_set 19 = .ok (.iastore, 1) := by decide +kernel
theorem dX0_set_20 : decode cX0_set 20 = .ok (.return_, 1) := by decide +kernel
set_option maxRecDepth 20000 in
theorem ggX0_copy_X0_at : GoodIn wsX0_copy wsX0_at := goodIn_r _ [5, 6, 11] (by decide +kernel) (by decide +kernel)
set_option maxRecDepth 20000 in
theorem gX0_copy_X0_at : GoodIn wsX0_copy (wsV RX0 21 RX0 yX0_at wsX0_at) := goodIn_app (goodIn_of _ (by decide +kernel)) ggX0_copy_X0_at
set_option maxRecDepth 20000 in
theorem ggX0_copy_X0_set : GoodIn wsX0_copy wsX0_set := goodIn_r _ [10, 6, 11] (by decide +kernel) (by decide +kernel)
set_option maxRecDepth 20000 in
theorem gX0_copy_X0_set : GoodIn wsX0_copy (wsV RX0 25 RX0 yX0_set wsX0_set) := goodIn_app (goodIn_of _ (by decide +kernel)) ggX0_copy_X0_set
theorem dX0_copy_0 : decode cX0_copy 0 = .ok (.iload_n 2, 1) := by decide +kernel
theorem dX0_copy_1 : decode cX0_copy 1 = .ok (.istore 4, 2) := by decide +kernel
theorem dX0_copy_3 : decode cX0_copy 3 = .ok (.iload 4, 2) := by decide +kernel
theorem dX0_copy_5 : decode cX0_copy 5 = .ok (.iload_n 3, 1) := by decide +kernel
theorem dX0_copy_6 : decode cX0_copy 6 = .ok (.if_icmp .ge 21, 3) := by decide +kernel
theorem dX0_copy_9 : decode cX0_copy 9 = .ok (.aload_n 0, 1) := by decide +kernel
theorem dX0_copy_10 : decode cX0_copy 10 = .ok (.iload 4, 2) := by decide +kernel
theorem dX0_copy_12 : decode cX0_copy 12 = .ok (.aload_n 1, 1) := by decide +kernel
theorem dX0_copy_13 : decode cX0_copy 13 = .ok (.iload 4, 2) := by decide +kernel
theorem dX0_copy_15 : decode cX0_copy 15 = .ok (.invokevirtual 21, 3) := by decide +kernel
theorem dX0_copy_18 : decode cX0_copy 18 = .ok (.invokevirtual 25, 3) := by decide +kernel
theorem dX0_copy_21 : decode cX0_copy 21 = .ok (.iinc 4 1, 3) := by decide +kernel
theorem dX0_copy_24 : decode cX0_copy 24 = .ok (.goto (-21), 3) := by decide +kernel
theorem dX0_copy_27 : decode cX0_copy 27 = .ok (.return_, 1) := by decide +kernel
set_option maxRecDepth 20000 in
theorem ggX0_isZeroFrom_X0_at : GoodIn wsX0_isZeroFrom wsX0_at := goodIn_r _ [6, 1, 7] (by decide +kernel) (by decide +kernel)
set_option maxRecDepth 20000 in
theorem gX0_isZeroFrom_X0_at : GoodIn wsX0_isZeroFrom (wsV RX0 21 RX0 yX0_at wsX0_at) := goodIn_app (goodIn_of _ (by decide +kernel)) ggX0_isZeroFrom_X0_at
theorem dX0_isZeroFrom_0 : decode cX0_isZeroFrom 0 = .ok (.iload_n 1, 1) := by decide +kernel
theorem dX0_isZeroFrom_1 : decode cX0_isZeroFrom 1 = .ok (.istore_n 2, 1) := by decide +kernel
theorem dX0_isZeroFrom_2 : decode cX0_isZeroFrom 2 = .ok (.iload_n 2, 1) := by decide +kernel
theorem dX0_isZeroFrom_3 : decode cX0_isZeroFrom 3 = .ok (.aload_n 0, 1) := by decide +kernel
theorem dX0_isZeroFrom_4 : decode cX0_isZeroFrom 4 = .ok (.getfield 15, 3) := by decide +kernel
theorem dX0_isZeroFrom_7 : decode cX0_isZeroFrom 7 = .ok (.arraylength, 1) := by decide +kernel
theorem dX0_isZeroFrom_8 : decode cX0_isZeroFrom 8 = .ok (.if_icmp .ge 19, 3) := by decide +kernel
theorem dX0_isZeroFrom_11 : decode cX0_isZeroFrom 11 = .ok (.aload_n 0, 1) := by decide +kernel
theorem dX0_isZeroFrom_12 : decode cX0_isZeroFrom 12 = .ok (.iload_n 2, 1) := by decide +kernel
theorem dX0_isZeroFrom_13 : decode cX0_isZeroFrom 13 = .ok (.invokevirtual 21, 3) := by decide +kernel
theorem dX0_isZeroFrom_16 : decode cX0_isZeroFrom 16 = .ok (.ifCond .eq 5, 3) := by decide +kernel
theorem dX0_isZeroFrom_19 : decode cX0_isZeroFrom 19 = .ok (.iconst 0, 1) := by decide +kernel
theorem dX0_isZeroFrom_20 : decode cX0_isZeroFrom 20 = .ok (.ireturn, 1) := by decide +kernel
theorem dX0_isZeroFrom_21 : decode cX0_isZeroFrom 21 = .ok (.iinc 2 1, 3) := by decide +kernel
theorem dX0_isZeroFrom_24 : decode cX0_isZeroFrom 24 = .ok (.goto (-22), 3) := by decide +kernel
theorem dX0_isZeroFrom_27 : decode cX0_isZeroFrom 27 = .ok (.iconst 1, 1) := by decide +kernel
theorem dX0_isZeroFrom_28 : decode cX0_isZeroFrom 28 = .ok (.ireturn, 1) := by decide +kernel
set_option maxRecDepth 20000 in
theorem ggX0_numberAt_X0_at : GoodIn wsX0_numberAt wsX0_at := goodIn_r _ [5, 6, 7] (by decide +kernel) (by decide +kernel)
set_option maxRecDepth 20000 in
theorem gX0_numberAt_X0_at : GoodIn wsX0_numberAt (wsV RX0 21 RX0 yX0_at wsX0_at) := goodIn_app (goodIn_of _ (by decide +kernel)) ggX0_numberAt_X0_at
theorem dX0_numberAt_0 : decode cX0_numberAt 0 = .ok (.iconst 0, 1) := by decide +kernel
theorem dX0_numberAt_1 : decode cX0_numberAt 1 = .ok (.istore_n 3, 1) := by decide +kernel
theorem dX0_numberAt_2 : decode cX0_numberAt 2 = .ok (.iconst 0, 1) := by decide +kernel
theorem dX0_numberAt_3 : decode cX0_numberAt 3 = .ok (.istore 4, 2) := by decide +kernel
theorem dX0_numberAt_5 : decode cX0_numberAt 5 = .ok (.iload 4, 2) := by decide +kernel
theorem dX0_numberAt_7 : decode cX0_numberAt 7 = .ok (.iload_n 2, 1) := by decide +kernel
theorem dX0_numberAt_8 : decode cX0_numberAt 8 = .ok (.if_icmp .ge 23, 3) := by decide +kernel
theorem dX0_numberAt_11 : decode cX0_numberAt 11 = .ok (.iload_n 3, 1) := by decide +kernel
theorem dX0_numberAt_12 : decode cX0_numberAt 12 = .ok (.bipush 8, 2) := by decide +kernel
theorem dX0_numberAt_14 : decode cX0_numberAt 14 = .ok (.ishl, 1) := by decide +kernel
theorem dX0_numberAt_15 : decode cX0_numberAt 15 = .ok (.aload_n 0, 1) := by decide +kernel
theorem dX0_numberAt_16 : decode cX0_numberAt 16 = .ok (.iload_n 1, 1) := by decide +kernel
theorem dX0_numberAt_17 : decode cX0_numberAt 17 = .ok (.iload 4, 2) := by decide +kernel
theorem dX0_numberAt_19 : decode cX0_numberAt 19 = .ok (.iadd, 1) := by decide +kernel
theorem dX0_numberAt_20 : decode cX0_numberAt 20 = .ok (.invokevirtual 21, 3) := by decide +kernel
theorem dX0_numberAt_23 : decode cX0_numberAt 23 = .ok (.ior, 1) := by decide +kernel
theorem dX0_numberAt_24 : decode cX0_numberAt 24 = .ok (.istore_n 3, 1) := by decide +kernel
theorem dX0_numberAt_25 : decode cX0_numberAt 25 = .ok (.iinc 4 1, 3) := by decide +kernel
theorem dX0_numberAt_28 : decode cX0_numberAt 28 = .ok (.goto (-23), 3) := by decide +kernel
theorem dX0_numberAt_31 : decode cX0_numberAt 31 = .ok (.iload_n 3, 1) := by decide +kernel
theorem dX0_numberAt_32 : decode cX0_numberAt 32 = .ok (.ireturn, 1) := by decide +kernel
set_option maxRecDepth 20000 in
theorem ggX0_setNumber_X0_set : GoodIn wsX0_setNumber wsX0_set := goodIn_r _ [5, 6, 7] (by decide +kernel) (by decide +kernel)
set_option maxRecDepth 20000 in
theorem gX0_setNumber_X0_set : GoodIn wsX0_setNumber (wsV RX0 25 RX0 yX0_set wsX0_set) := goodIn_app (goodIn_of _ (by decide +kernel)) ggX0_setNumber_X0_set
theorem dX0_setNumber_0 : decode cX0_setNumber 0 = .ok (.iconst 0, 1) := by decide +kernel
theorem dX0_setNumber_1 : decode cX0_setNumber 1 = .ok (.istore 4, 2) := by decide +kernel
theorem dX0_setNumber_3 : decode cX0_setNumber 3 = .ok (.iload 4, 2) := by decide +kernel
theorem dX0_setNumber_5 : decode cX0_setNumber 5 = .ok (.iload_n 2, 1) := by decide +kernel
theorem dX0_setNumber_6 : decode cX0_setNumber 6 = .ok (.if_icmp .ge 36, 3) := by decide +kernel
theorem dX0_setNumber_9 : decode cX0_setNumber 9 = .ok (.bipush 8, 2) := by decide +kernel
theorem dX0_setNumber_11 : decode cX0_setNumber 11 = .ok (.iload_n 2, 1) := by decide +kernel
theorem dX0_setNumber_12 : decode cX0_setNumber 12 = .ok (.iconst 1, 1) := by decide +kernel
theorem dX0_setNumber_13 : decode cX0_setNumber 13 = .ok (.isub, 1) := by decide +kernel
theorem dX0_setNumber_14 : decode cX0_setNumber 14 = .ok (.iload 4, 2) := by decide +kernel
theorem dX0_setNumber_16 : decode cX0_setNumber 16 = .ok (.isub, 1) := by decide +kernel
theorem dX0_setNumber_17 : decode cX0_setNumber 17 = .ok (.imul, 1) := by decide +kernel
theorem dX0_setNumber_18 : decode cX0_setNumber 18 = .ok (.istore 5, 2) := by decide +kernel
theorem dX0_setNumber_20 : decode cX0_setNumber 20 = .ok (.aload_n 0, 1) := by decide +kernel
theorem dX0_setNumber_21 : decode cX0_setNumber 21 = .ok (.iload_n 1, 1) := by decide +kernel
theorem dX0_setNumber_22 : decode cX0_setNumber 22 = .ok (.iload 4, 2) := by decide +kernel
theorem dX0_setNumber_24 : decode cX0_setNumber 24 = .ok (.iadd, 1) := by decide +kernel
theorem dX0_setNumber_25 : decode cX0_setNumber 25 = .ok (.iload_n 3, 1) := by decide +kernel
theorem dX0_setNumber_26 : decode cX0_setNumber 26 = .ok (.iload 5, 2) := by decide +kernel
theorem dX0_setNumber_28 : decode cX0_setNumber 28 = .ok (.iushr, 1) := by decide +kernel
theorem dX0_setNumber_29 : decode cX0_setNumber 29 = .ok (.sipush 255, 3) := by decide +kernel
theorem dX0_setNumber_32 : decode cX0_setNumber 32 = .ok (.iand, 1) := by decide +kernel
theorem dX0_setNumber_33 : decode cX0_setNumber 33 = .ok (.invokevirtual 25, 3) := by decide +kernel
theorem dX0_setNumber_36 : decode cX0_setNumber 36 = .ok (.iinc 4 1, 3) := by decide +kernel
theorem dX0_setNumber_39 : decode cX0_setNumber 39 = .ok (.goto (-36), 3) := by decide +kernel
theorem dX0_setNumber_42 : decode cX0_setNumber 42 = .ok (.return_, 1) := by decide +kernel
set_option maxRecDepth 20000 in
theorem ggX1_init_X0_init : GoodIn wsX1_init wsX0_init := goodIn_r _ [13, 14, 2, 3, 15, 16, 17, 18, 19, 20, 21] (by decide +kernel) (by decide +kernel)
set_option maxRecDepth 20000 in
theorem gX1_init_X0_init : GoodIn wsX1_init (wsX0_init) := ggX1_init_X0_init
theorem dX1_init_0 : decode cX1_init 0 = .ok (.aload_n 0, 1) := by decide +kernel
theorem dX1_init_1 : decode cX1_init 1 = .ok (.invokespecial 3, 3) := by decide +kernel
theorem dX1_init_4 : decode cX1_init 4 = .ok (.aload_n 0, 1) := by decide +kernel
theorem dX1_init_5 : decode cX1_init 5 = .ok (.new 9, 3) := by decide +kernel
theorem dX1_init_8 : decode cX1_init 8 = .ok (.dup, 1) := by decide +kernel
theorem dX1_init_9 : decode cX1_init 9 = .ok (.iload_n 1, 1) := by decide +kernel
theorem dX1_init_10 : decode cX1_init 10 = .ok (.invokespecial 11, 3) := by decide +kernel
theorem dX1_init_13 : decode cX1_init 13 = .ok (.putfield 14, 3) := by decide +kernel
theorem dX1_init_16 : decode cX1_init 16 = .ok (.aload_n 0, 1) := by decide +kernel
theorem dX1_init_17 : decode cX1_init 17 = .ok (.new 9, 3) := by decide +kernel
theorem dX1_init_20 : decode cX1_init 20 = .ok (.dup, 1) := by decide +kernel
theorem dX1_init_21 : decode cX1_init 21 = .ok (.iload_n 1, 1) := by decide +kernel
theorem dX1_init_22 : decode cX1_init 22 = .ok (.bipush 9, 2) := by decide +kernel
theorem dX1_init_24 : decode cX1_init 24 = .ok (.idiv, 1) := by decide +kernel
theorem dX1_init_25 : decode cX1_init 25 = .ok (.iconst 1, 1) := by decide +kernel
theorem dX1_init_26 : decode cX1_init 26 = .ok (.iadd, 1) := by decide +kernel
theorem dX1_init_27 : decode cX1_init 27 = .ok (.invokespecial 11, 3) := by decide +kernel
theorem dX1_init_30 : decode cX1_init 30 = .ok (.putfield 20, 3) := by decide +kernel
theorem dX1_init_33 : decode cX1_init 33 = .ok (.aload_n 0, 1) := by decide +kernel
theorem dX1_init_34 : decode cX1_init 34 = .ok (.new 9, 3) := by decide +kernel
theorem dX1_init_37 : decode cX1_init 37 = .ok (.dup, 1) := by decide +kernel
theorem dX1_init_38 : decode cX1_init 38 = .ok (.bipush 6, 2) := by decide +kernel
theorem dX1_init_40 : decode cX1_init 40 = .ok (.invokespecial 11, 3) := by decide +kernel
theorem dX1_init_43 : decode cX1_init 43 = .ok (.putfield 23, 3) := by decide +kernel
theorem dX1_init_46 : decode cX1_init 46 = .ok (.aload_n 0, 1) := by decide +kernel
theorem dX1_init_47 : decode cX1_init 47 = .ok (.new 9, 3) := by decide +kernel
theorem dX1_init_50 : decode cX1_init 50 = .ok (.dup, 1) := by decide +kernel
theorem dX1_init_51 : decode cX1_init 51 = .ok (.bipush 8, 2) := by decide +kernel
theorem dX1_init_53 : decode cX1_init 53 = .ok (.invokespecial 11, 3) := by decide +kernel
theorem dX1_init_56 : decode cX1_init 56 = .ok (.putfield 26, 3) := by decide +kernel
theorem dX1_init_59 : decode cX1_init 59 = .ok (.return_, 1) := by decide +kernel
theorem dX1_has_0 : decode cX1_has 0 = .ok (.iload_n 1, 1) := by decide +kernel
theorem dX1_has_1 : decode cX1_has 1 = .ok (.iconst 1, 1) := by decide +kernel
theorem dX1_has_2 : decode cX1_has 2 = .ok (.if_icmp .lt 15, 3) := by decide +kernel
theorem dX1_has_5 : decode cX1_has 5 = .ok (.iload_n 1, 1) := by decide +kernel
theorem dX1_has_6 : decode cX1_has 6 = .ok (.aload_n 0, 1) := by decide +kernel
theorem dX1_has_7 : decode cX1_has 7 = .ok (.getfield 29, 3) := by decide +kernel
theorem dX1_has_10 : decode cX1_has 10 = .ok (.if_icmp .gt 7, 3) := by decide +kernel
theorem dX1_has_13 : decode cX1_has 13 = .ok (.iconst 1, 1) := by decide +kernel
theorem dX1_has_14 : decode cX1_has 14 = .ok (.goto 4, 3) := by decide +kernel
theorem dX1_has_17 : decode cX1_has 17 = .ok (.iconst 0, 1) := by decide +kernel
theorem dX1_has_18 : decode cX1_has 18 = .ok (.ireturn, 1) := by decide +kernel
set_option maxRecDepth 20000 in
theorem ggX1_kindOf_X0_at : GoodIn wsX1_kindOf wsX0_at := goodIn_r _ [7, 8, 17] (by decide +kernel) (by decide +kernel)
set_option maxRecDepth 20000 in
theorem gX1_kindOf_X0_at : GoodIn wsX1_kindOf (wsV RX1 33 RX0 yX0_at wsX0_at) := goodIn_app (goodIn_of _ (by decide +kernel)) ggX1_kindOf_X0_at
theorem dX1_kindOf_0 : decode cX1_kindOf 0 = .ok (.aload_n 0, 1) := by decide +kernel
theorem dX1_kindOf_1 : decode cX1_kindOf 1 = .ok (.getfield 14, 3) := by decide +kernel
theorem dX1_kindOf_4 : decode cX1_kindOf 4 = .ok (.aload_n 0, 1) := by decide +kernel
theorem dX1_kindOf_5 : decode cX1_kindOf 5 = .ok (.getfield 20, 3) := by decide +kernel
theorem dX1_kindOf_8 : decode cX1_kindOf 8 = .ok (.iload_n 1, 1) := by decide +kernel
theorem dX1_kindOf_9 : decode cX1_kindOf 9 = .ok (.invokevirtual 33, 3) := by decide +kernel
theorem dX1_kindOf_12 : decode cX1_kindOf 12 = .ok (.iconst 1, 1) := by decide +kernel
theorem dX1_kindOf_13 : decode cX1_kindOf 13 = .ok (.iadd, 1) := by decide +kernel
theorem dX1_kindOf_14 : decode cX1_kindOf 14 = .ok (.invokevirtual 33, 3) := by decide +kernel
theorem dX1_kindOf_17 : decode cX1_kindOf 17 = .ok (.ireturn, 1) := by decide +kernel
set_option maxRecDepth 20000 in
theorem ggX1_lengthOf_X0_at : GoodIn wsX1_lengthOf wsX0_at := goodIn_r _ [7, 8, 17] (by decide +kernel) (by decide +kernel)
set_option maxRecDepth 20000 in
theorem gX1_lengthOf_X0_at : GoodIn wsX1_lengthOf (wsV RX1 33 RX0 yX0_at wsX0_at) := goodIn_app (goodIn_of _ (by decide +kernel)) ggX1_lengthOf_X0_at
theorem dX1_lengthOf_0 : decode cX1_lengthOf 0 = .ok (.aload_n 0, 1) := by decide +kernel
theorem dX1_lengthOf_1 : decode cX1_lengthOf 1 = .ok (.getfield 14, 3) := by decide +kernel
theorem dX1_lengthOf_4 : decode cX1_lengthOf 4 = .ok (.aload_n 0, 1) := by decide +kernel
theorem dX1_lengthOf_5 : decode cX1_lengthOf 5 = .ok (.getfield 20, 3) := by decide +kernel
theorem dX1_lengthOf_8 : decode cX1_lengthOf 8 = .ok (.iload_n 1, 1) := by decide +kernel
theorem dX1_lengthOf_9 : decode cX1_lengthOf 9 = .ok (.invokevirtual 33, 3) := by decide +kernel
theorem dX1_lengthOf_12 : decode cX1_lengthOf 12 = .ok (.iconst 4, 1) := by decide +kernel
theorem dX1_lengthOf_13 : decode cX1_lengthOf 13 = .ok (.iadd, 1) := by decide +kernel
theorem dX1_lengthOf_14 : decode cX1_lengthOf 14 = .ok (.invokevirtual 33, 3) := by decide +kernel
theorem dX1_lengthOf_17 : decode cX1_lengthOf 17 = .ok (.ireturn, 1) := by decide +kernel
set_option maxRecDepth 20000 in
theorem ggX1_byteAt_X0_at : GoodIn wsX1_byteAt wsX0_at := goodIn_r _ [7, 8, 17] (by decide +kernel) (by decide +kernel)
set_option maxRecDepth 20000 in
theorem gX1_byteAt_X0_at : GoodIn wsX1_byteAt (wsV RX1 33 RX0 yX0_at wsX0_at) := goodIn_app (goodIn_of _ (by decide +kernel)) ggX1_byteAt_X0_at
theorem dX1_byteAt_0 : decode cX1_byteAt 0 = .ok (.aload_n 0, 1) := by decide +kernel
theorem dX1_byteAt_1 : decode cX1_byteAt 1 = .ok (.getfield 14, 3) := by decide +kernel
theorem dX1_byteAt_4 : decode cX1_byteAt 4 = .ok (.aload_n 0, 1) := by decide +kernel
theorem dX1_byteAt_5 : decode cX1_byteAt 5 = .ok (.getfield 20, 3) := by decide +kernel
theorem dX1_byteAt_8 : decode cX1_byteAt 8 = .ok (.iload_n 1, 1) := by decide +kernel
theorem dX1_byteAt_9 : decode cX1_byteAt 9 = .ok (.invokevirtual 33, 3) := by decide +kernel
theorem dX1_byteAt_12 : decode cX1_byteAt 12 = .ok (.iconst 5, 1) := by decide +kernel
theorem dX1_byteAt_13 : decode cX1_byteAt 13 = .ok (.iadd, 1) := by decide +kernel
theorem dX1_byteAt_14 : decode cX1_byteAt 14 = .ok (.iload_n 2, 1) := by decide +kernel
theorem dX1_byteAt_15 : decode cX1_byteAt 15 = .ok (.iadd, 1) := by decide +kernel
theorem dX1_byteAt_16 : decode cX1_byteAt 16 = .ok (.invokevirtual 33, 3) := by decide +kernel
theorem dX1_byteAt_19 : decode cX1_byteAt 19 = .ok (.ireturn, 1) := by decide +kernel
set_option maxRecDepth 20000 in
theorem ggX1_sumOfBytes_X1_lengthOf : GoodIn wsX1_sumOfBytes wsX1_lengthOf := goodIn_r _ [5, 6, 7, 8, 9, 10, 11, 12, 13, 18, 19, 20, 21, 22, 23, 24, 25, 26] (by decide +kernel) (by decide +kernel)
set_option maxRecDepth 20000 in
theorem gX1_sumOfBytes_X1_lengthOf : GoodIn wsX1_sumOfBytes (wsV RX1 37 RX1 yX1_lengthOf wsX1_lengthOf) := goodIn_app (goodIn_of _ (by decide +kernel)) ggX1_sumOfBytes_X1_lengthOf
set_option maxRecDepth 20000 in
theorem ggX1_sumOfBytes_X1_byteAt : GoodIn wsX1_sumOfBytes wsX1_byteAt := goodIn_r _ [17, 6, 7, 8, 9, 10, 11, 12, 13, 18, 19, 20, 21, 22, 23, 24, 25, 26] (by decide +kernel) (by decide +kernel)
set_option maxRecDepth 20000 in
theorem gX1_sumOfBytes_X1_byteAt : GoodIn wsX1_sumOfBytes (wsV RX1 40 RX1 yX1_byteAt wsX1_byteAt) := goodIn_app (goodIn_of _ (by decide +kernel)) ggX1_sumOfBytes_X1_byteAt
theorem dX1_sumOfBytes_0 : decode cX1_sumOfBytes 0 = .ok (.aload_n 0, 1) := by decide +kernel
theorem dX1_sumOfBytes_1 : decode cX1_sumOfBytes 1 = .ok (.iload_n 1, 1) := by decide +kernel
theorem dX1_sumOfBytes_2 : decode cX1_sumOfBytes 2 = .ok (.invokevirtual 37, 3) := by decide +kernel
theorem dX1_sumOfBytes_5 : decode cX1_sumOfBytes 5 = .ok (.istore_n 2, 1) := by decide +kernel
theorem dX1_sumOfBytes_6 : decode cX1_sumOfBytes 6 = .ok (.iconst 0, 1) := by decide +kernel
theorem dX1_sumOfBytes_7 : decode cX1_sumOfBytes 7 = .ok (.istore_n 3, 1) := by decide +kernel
theorem dX1_sumOfBytes_8 : decode cX1_sumOfBytes 8 = .ok (.iconst 0, 1) := by decide +kernel
theorem dX1_sumOfBytes_9 : decode cX1_sumOfBytes 9 = .ok (.istore 4, 2) := by decide +kernel
theorem dX1_sumOfBytes_11 : decode cX1_sumOfBytes 11 = .ok (.iload 4, 2) := by decide +kernel
theorem dX1_sumOfBytes_13 : decode cX1_sumOfBytes 13 = .ok (.iload_n 2, 1) := by decide +kernel
theorem dX1_sumOfBytes_14 : decode cX1_sumOfBytes 14 = .ok (.if_icmp .ge 19, 3) := by decide +kernel
theorem dX1_sumOfBytes_17 : decode cX1_sumOfBytes 17 = .ok (.iload_n 3, 1) := by decide +kernel
theorem dX1_sumOfBytes_18 : decode cX1_sumOfBytes 18 = .ok (.aload_n 0, 1) := by decide +kernel
theorem dX1_sumOfBytes_19 : decode cX1_sumOfBytes 19 = .ok (.iload_n 1, 1) := by decide +kernel
theorem dX1_sumOfBytes_20 : decode cX1_sumOfBytes 20 = .ok (.iload 4, 2) := by decide +kernel
theorem dX1_sumOfBytes_22 : decode cX1_sumOfBytes 22 = .ok (.invokevirtual 40, 3) := by decide +kernel
theorem dX1_sumOfBytes_25 : decode cX1_sumOfBytes 25 = .ok (.iadd, 1) := by decide +kernel
theorem dX1_sumOfBytes_26 : decode cX1_sumOfBytes 26 = .ok (.istore_n 3, 1) := by decide +kernel
theorem dX1_sumOfBytes_27 : decode cX1_sumOfBytes 27 = .ok (.iinc 4 1, 3) := by decide +kernel
theorem dX1_sumOfBytes_30 : decode cX1_sumOfBytes 30 = .ok (.goto (-19), 3) := by decide +kernel
theorem dX1_sumOfBytes_33 : decode cX1_sumOfBytes 33 = .ok (.iload_n 3, 1) := by decide +kernel
theorem dX1_sumOfBytes_34 : decode cX1_sumOfBytes 34 = .ok (.ireturn, 1) := by decide +kernel
set_option maxRecDepth 20000 in
theorem ggX1_numberOf_X1_kindOf : GoodIn wsX1_numberOf wsX1_kindOf := goodIn_r _ [6, 7, 8, 9, 10, 11, 12, 13, 14, 15, 16, 17, 18, 19, 20, 21, 22, 23] (by decide +kernel) (by decide +kernel)
set_option maxRecDepth 20000 in
theorem gX1_numberOf_X1_kindOf : GoodIn wsX1_numberOf (wsV RX1 44 RX1 yX1_kindOf wsX1_kindOf) := goodIn_app (goodIn_of _ (by decide +kernel)) ggX1_numberOf_X1_kindOf
theorem dX1_numberOf_0 : decode cX1_numberOf 0 = .ok (.iconst 0, 1) := by decide +kernel
theorem dX1_numberOf_1 : decode cX1_numberOf 1 = .ok (.istore_n 3, 1) := by decide +kernel
theorem dX1_numberOf_2 : decode cX1_numberOf 2 = .ok (.iconst 1, 1) := by decide +kernel
theorem dX1_numberOf_3 : decode cX1_numberOf 3 = .ok (.istore 4, 2) := by decide +kernel
theorem dX1_numberOf_5 : decode cX1_numberOf 5 = .ok (.iload 4, 2) := by decide +kernel
theorem dX1_numberOf_7 : decode cX1_numberOf 7 = .ok (.aload_n 0, 1) := by decide +kernel
theorem dX1_numberOf_8 : decode cX1_numberOf 8 = .ok (.getfield 29, 3) := by decide +kernel
theorem dX1_numberOf_11 : decode cX1_numberOf 11 = .ok (.if_icmp .gt 30, 3) := by decide +kernel
theorem dX1_numberOf_14 : decode cX1_numberOf 14 = .ok (.aload_n 0, 1) := by decide +kernel
theorem dX1_numberOf_15 : decode cX1_numberOf 15 = .ok (.iload 4, 2) := by decide +kernel
theorem dX1_numberOf_17 : decode cX1_numberOf 17 = .ok (.invokevirtual 44, 3) := by decide +kernel
theorem dX1_numberOf_20 : decode cX1_numberOf 20 = .ok (.iload_n 1, 1) := by decide +kernel
theorem dX1_numberOf_21 : decode cX1_numberOf 21 = .ok (.if_icmp .ne 14, 3) := by decide +kernel
theorem dX1_numberOf_24 : decode cX1_numberOf 24 = .ok (.iload_n 3, 1) := by decide +kernel
theorem dX1_numberOf_25 : decode cX1_numberOf 25 = .ok (.iload_n 2, 1) := by decide +kernel
theorem dX1_numberOf_26 : decode cX1_numberOf 26 = .ok (.if_icmp .ne 6, 3) := by decide +kernel
theorem dX1_numberOf_29 : decode cX1_numberOf 29 = .ok (.iload 4, 2) := by decide +kernel
theorem dX1_numberOf_31 : decode cX1_numberOf 31 = .ok (.ireturn, 1) := by decide +kernel
theorem dX1_numberOf_32 : decode cX1_numberOf 32 = .ok (.iinc 3 1, 3) := by decide +kernel
theorem dX1_numberOf_35 : decode cX1_numberOf 35 = .ok (.iinc 4 1, 3) := by decide +kernel
theorem dX1_numberOf_38 : decode cX1_numberOf 38 = .ok (.goto (-33), 3) := by decide +kernel
theorem dX1_numberOf_41 : decode cX1_numberOf 41 = .ok (.iconst (-1), 1) := by decide +kernel
theorem dX1_numberOf_42 : decode cX1_numberOf 42 = .ok (.ireturn, 1) := by decide +kernel
theorem dX1_bytesInMemory_0 : decode cX1_bytesInMemory 0 = .ok (.aload_n 0, 1) := by decide +kernel
theorem dX1_bytesInMemory_1 : decode cX1_bytesInMemory 1 = .ok (.getfield 47, 3) := by decide +kernel
theorem dX1_bytesInMemory_4 : decode cX1_bytesInMemory 4 = .ok (.aload_n 0, 1) := by decide +kernel
theorem dX1_bytesInMemory_5 : decode cX1_bytesInMemory 5 = .ok (.getfield 50, 3) := by decide +kernel
theorem dX1_bytesInMemory_8 : decode cX1_bytesInMemory 8 = .ok (.isub, 1) := by decide +kernel
theorem dX1_bytesInMemory_9 : decode cX1_bytesInMemory 9 = .ok (.ireturn, 1) := by decide +kernel
set_option maxRecDepth 20000 in
theorem ggX1_write_X0_set : GoodIn wsX1_write wsX0_set := goodIn_r _ [8, 9, 47] (by decide +kernel) (by decide +kernel)
set_option maxRecDepth 20000 in
theorem gX1_write_X0_set : GoodIn wsX1_write (wsV RX1 53 RX0 yX0_set wsX0_set) := goodIn_app (goodIn_of _ (by decide +kernel)) ggX1_write_X0_set
set_option maxRecDepth 20000 in
theorem ggX1_write_X0_setNumber : GoodIn wsX1_write wsX0_setNumber := goodIn_r _ [13, 14, 5, 6, 7, 8, 9, 47] (by decide +kernel) (by decide +kernel)
set_option maxRecDepth 20000 in
theorem gX1_write_X0_setNumber : GoodIn wsX1_write (wsV RX1 57 RX0 yX0_setNumber wsX0_setNumber) := goodIn_app (goodIn_of _ (by decide +kernel)) ggX1_write_X0_setNumber
set_option maxRecDepth 20000 in
theorem ggX1_write_X0_at : GoodIn wsX1_write wsX0_at := goodIn_r _ [18, 9, 47] (by decide +kernel) (by decide +kernel)
set_option maxRecDepth 20000 in
theorem gX1_write_X0_at : GoodIn wsX1_write (wsV RX1 33 RX0 yX0_at wsX0_at) := goodIn_app (goodIn_of _ (by decide +kernel)) ggX1_write_X0_at
set_option maxRecDepth 20000 in
theorem ggX1_write_X2_sumOfRow : GoodIn wsX1_write wsX2_sumOfRow := goodIn_r _ [21, 22, 23, 16, 17, 7, 18, 9, 47] (by decide +kernel) (by decide +kernel)
set_option maxRecDepth 20000 in
theorem gX1_write_X2_sumOfRow_n61 : GoodIn wsX1_write (wsX2_sumOfRow) := ggX1_write_X2_sumOfRow
set_option maxRecDepth 20000 in
theorem ggX1_write_X1_enlistNext : GoodIn wsX1_write wsX1_enlistNext := goodIn_r _ [28, 3, 29, 2, 30, 4, 5, 6, 7, 8, 9, 31, 32, 33, 27, 34, 1, 15, 16, 17, 18, 35, 36, 37, 38, 39, 40, 41, 42, 43, 44, 45, 46, 47] (by decide +kernel) (by decide +kernel)
set_option maxRecDepth 20000 in
theorem gX1_write_X1_enlistNext : GoodIn wsX1_write (wsV RX1 65 RX1 yX1_enlistNext wsX1_enlistNext) := goodIn_app (goodIn_of _ (by decide +kernel)) ggX1_write_X1_enlistNext
theorem dX1_write_0 : decode cX1_write 0 = .ok (.aload_n 0, 1) := by decide +kernel
theorem dX1_write_1 : decode cX1_write 1 = .ok (.getfield 14, 3) := by decide +kernel
theorem dX1_write_4 : decode cX1_write 4 = .ok (.aload_n 0, 1) := by decide +kernel
theorem dX1_write_5 : decode cX1_write 5 = .ok (.getfield 47, 3) := by decide +kernel
theorem dX1_write_8 : decode cX1_write 8 = .ok (.bipush 90, 2) := by decide +kernel
theorem dX1_write_10 : decode cX1_write 10 = .ok (.invokevirtual 53, 3) := by decide +kernel
theorem dX1_write_13 : decode cX1_write 13 = .ok (.aload_n 0, 1) := by decide +kernel
theorem dX1_write_14 : decode cX1_write 14 = .ok (.getfield 14, 3) := by decide +kernel
theorem dX1_write_17 : decode cX1_write 17 = .ok (.aload_n 0, 1) := by decide +kernel
theorem dX1_write_18 : decode cX1_write 18 = .ok (.getfield 47, 3) := by decide +kernel
theorem dX1_write_21 : decode cX1_write 21 = .ok (.iconst 1, 1) := by decide +kernel
theorem dX1_write_22 : decode cX1_write 22 = .ok (.iadd, 1) := by decide +kernel
theorem dX1_write_23 : decode cX1_write 23 = .ok (.iload_n 1, 1) := by decide +kernel
theorem dX1_write_24 : decode cX1_write 24 = .ok (.invokevirtual 53, 3) := by decide +kernel
theorem dX1_write_27 : decode cX1_write 27 = .ok (.aload_n 0, 1) := by decide +kernel
theorem dX1_write_28 : decode cX1_write 28 = .ok (.getfield 14, 3) := by decide +kernel
theorem dX1_write_31 : decode cX1_write 31 = .ok (.aload_n 0, 1) := by decide +kernel
theorem dX1_write_32 : decode cX1_write 32 = .ok (.getfield 47, 3) := by decide +kernel
theorem dX1_write_35 : decode cX1_write 35 = .ok (.iconst 2, 1) := by decide +kernel
theorem dX1_write_36 : decode cX1_write 36 = .ok (.iadd, 1) := by decide +kernel
theorem dX1_write_37 : decode cX1_write 37 = .ok (.iconst 2, 1) := by decide +kernel
theorem dX1_write_38 : decode cX1_write 38 = .ok (.aload_n 0, 1) := by decide +kernel
theorem dX1_write_39 : decode cX1_write 39 = .ok (.getfield 29, 3) := by decide +kernel
theorem dX1_write_42 : decode cX1_write 42 = .ok (.iconst 1, 1) := by decide +kernel
theorem dX1_write_43 : decode cX1_write 43 = .ok (.iadd, 1) := by decide +kernel
theorem dX1_write_44 : decode cX1_write 44 = .ok (.invokevirtual 57, 3) := by decide +kernel
theorem dX1_write_47 : decode cX1_write 47 = .ok (.aload_n 0, 1) := by decide +kernel
theorem dX1_write_48 : decode cX1_write 48 = .ok (.getfield 14, 3) := by decide +kernel
theorem dX1_write_51 : decode cX1_write 51 = .ok (.aload_n 0, 1) := by decide +kernel
theorem dX1_write_52 : decode cX1_write 52 = .ok (.getfield 47, 3) := by decide +kernel
theorem dX1_write_55 : decode cX1_write 55 = .ok (.iconst 4, 1) := by decide +kernel
theorem dX1_write_56 : decode cX1_write 56 = .ok (.iadd, 1) := by decide +kernel
theorem dX1_write_57 : decode cX1_write 57 = .ok (.iload_n 3, 1) := by decide +kernel
theorem dX1_write_58 : decode cX1_write 58 = .ok (.invokevirtual 53, 3) := by decide +kernel
theorem dX1_write_61 : decode cX1_write 61 = .ok (.iconst 0, 1) := by decide +kernel
theorem dX1_write_62 : decode cX1_write 62 = .ok (.istore 4, 2) := by decide +kernel
theorem dX1_write_64 : decode cX1_write 64 = .ok (.iload 4, 2) := by decide +kernel
theorem dX1_write_66 : decode cX1_write 66 = .ok (.iload_n 3, 1) := by decide +kernel
theorem dX1_write_67 : decode cX1_write 67 = .ok (.if_icmp .ge 31, 3) := by decide +kernel
theorem dX1_write_70 : decode cX1_write 70 = .ok (.aload_n 0, 1) := by decide +kernel
theorem dX1_write_71 : decode cX1_write 71 = .ok (.getfield 14, 3) := by decide +kernel
theorem dX1_write_74 : decode cX1_write 74 = .ok (.aload_n 0, 1) := by decide +kernel
theorem dX1_write_75 : decode cX1_write 75 = .ok (.getfield 47, 3) := by decide +kernel
theorem dX1_write_78 : decode cX1_write 78 = .ok (.iconst 5, 1) := by decide +kernel
theorem dX1_write_79 : decode cX1_write 79 = .ok (.iadd, 1) := by decide +kernel
theorem dX1_write_80 : decode cX1_write 80 = .ok (.iload 4, 2) := by decide +kernel
theorem dX1_write_82 : decode cX1_write 82 = .ok (.iadd, 1) := by decide +kernel
theorem dX1_write_83 : decode cX1_write 83 = .ok (.aload_n 2, 1) := by decide +kernel
theorem dX1_write_84 : decode cX1_write 84 = .ok (.iload 4, 2) := by decide +kernel
theorem dX1_write_86 : decode cX1_write 86 = .ok (.invokevirtual 33, 3) := by decide +kernel
theorem dX1_write_89 : decode cX1_write 89 = .ok (.invokevirtual 53, 3) := by decide +kernel
theorem dX1_write_92 : decode cX1_write 92 = .ok (.iinc 4 1, 3) := by decide +kernel
theorem dX1_write_95 : decode cX1_write 95 = .ok (.goto (-31), 3) := by decide +kernel
theorem dX1_write_98 : decode cX1_write 98 = .ok (.aload_n 0, 1) := by decide +kernel
theorem dX1_write_99 : decode cX1_write 99 = .ok (.getfield 14, 3) := by decide +kernel
theorem dX1_write_102 : decode cX1_write 102 = .ok (.aload_n 0, 1) := by decide +kernel
theorem dX1_write_103 : decode cX1_write 103 = .ok (.getfield 47, 3) := by decide +kernel
theorem dX1_write_106 : decode cX1_write 106 = .ok (.iconst 5, 1) := by decide +kernel
theorem dX1_write_107 : decode cX1_write 107 = .ok (.iadd, 1) := by decide +kernel
theorem dX1_write_108 : decode cX1_write 108 = .ok (.iload_n 3, 1) := by decide +kernel
theorem dX1_write_109 : decode cX1_write 109 = .ok (.iadd, 1) := by decide +kernel
theorem dX1_write_110 : decode cX1_write 110 = .ok (.iconst 4, 1) := by decide +kernel
theorem dX1_write_111 : decode cX1_write 111 = .ok (.aload_n 0, 1) := by decide +kernel
theorem dX1_write_112 : decode cX1_write 112 = .ok (.getfield 14, 3) := by decide +kernel
theorem dX1_write_115 : decode cX1_write 115 = .ok (.aload_n 0, 1) := by decide +kernel
theorem dX1_write_116 : decode cX1_write 116 = .ok (.getfield 47, 3) := by decide +kernel
theorem dX1_write_119 : decode cX1_write 119 = .ok (.iload_n 3, 1) := by decide +kernel
theorem dX1_write_120 : decode cX1_write 120 = .ok (.invokestatic 61, 3) := by decide +kernel
theorem dX1_write_123 : decode cX1_write 123 = .ok (.invokevirtual 57, 3) := by decide +kernel
theorem dX1_write_126 : decode cX1_write 126 = .ok (.aload_n 0, 1) := by decide +kernel
theorem dX1_write_127 : decode cX1_write 127 = .ok (.invokevirtual 65, 3) := by decide +kernel
theorem dX1_write_130 : decode cX1_write 130 = .ok (.aload_n 0, 1) := by decide +kernel
theorem dX1_write_131 : decode cX1_write 131 = .ok (.getfield 29, 3) := by decide +kernel
theorem dX1_write_134 : decode cX1_write 134 = .ok (.ireturn, 1) := by decide +kernel
set_option maxRecDepth 20000 in
theorem ggX1_writeState_X1_fillState : GoodIn wsX1_writeState wsX1_fillState := goodIn_r _ [6, 1, 7, 8, 9, 10, 11, 12, 13, 14, 15, 16, 17, 18, 19, 20, 21, 48, 49, 50, 51, 52, 53, 54, 55, 56] (by decide +kernel) (by decide +kernel)
set_option maxRecDepth 20000 in
theorem gX1_writeState_X1_fillState : GoodIn wsX1_writeState (wsV RX1 68 RX1 yX1_fillState wsX1_fillState) := goodIn_app (goodIn_of _ (by decide +kernel)) ggX1_writeState_X1_fillState
set_option maxRecDepth 20000 in
theorem ggX1_writeState_X1_write : GoodIn wsX1_writeState wsX1_write := goodIn_r _ [25, 26, 27, 28, 29, 19, 20, 11, 21, 13, 14, 15, 16, 17, 18, 8, 9, 10, 12, 30, 31, 32, 33, 34, 35, 36, 37, 5, 38, 39, 7, 40, 41, 42, 43, 44, 45, 46, 47, 48, 49, 50, 51, 52, 53, 54, 55, 56] (by decide +kernel) (by decide +kernel)
set_option maxRecDepth 20000 in
theorem gX1_writeState_X1_write : GoodIn wsX1_writeState (wsV RX1 71 RX1 yX1_write wsX1_write) := goodIn_app (goodIn_of _ (by decide +kernel)) ggX1_writeState_X1_write
theorem dX1_writeState_0 : decode cX1_writeState 0 = .ok (.aload_n 0, 1) := by decide +kernel
theorem dX1_writeState_1 : decode cX1_writeState 1 = .ok (.invokevirtual 68, 3) := by decide +kernel
theorem dX1_writeState_4 : decode cX1_writeState 4 = .ok (.aload_n 0, 1) := by decide +kernel
theorem dX1_writeState_5 : decode cX1_writeState 5 = .ok (.iconst 5, 1) := by decide +kernel
theorem dX1_writeState_6 : decode cX1_writeState 6 = .ok (.aload_n 0, 1) := by decide +kernel
theorem dX1_writeState_7 : decode cX1_writeState 7 = .ok (.getfield 26, 3) := by decide +kernel
theorem dX1_writeState_10 : decode cX1_writeState 10 = .ok (.bipush 8, 2) := by decide +kernel
theorem dX1_writeState_12 : decode cX1_writeState 12 = .ok (.invokevirtual 71, 3) := by decide +kernel
theorem dX1_writeState_15 : decode cX1_writeState 15 = .ok (.ireturn, 1) := by decide +kernel
theorem dX1_markAllOnDisk_0 : decode cX1_markAllOnDisk 0 = .ok (.aload_n 0, 1) := by decide +kernel
theorem dX1_markAllOnDisk_1 : decode cX1_markAllOnDisk 1 = .ok (.aload_n 0, 1) := by decide +kernel
theorem dX1_markAllOnDisk_2 : decode cX1_markAllOnDisk 2 = .ok (.getfield 29, 3) := by decide +kernel
theorem dX1_markAllOnDisk_5 : decode cX1_markAllOnDisk 5 = .ok (.putfield 75, 3) := by decide +kernel
theorem dX1_markAllOnDisk_8 : decode cX1_markAllOnDisk 8 = .ok (.aload_n 0, 1) := by decide +kernel
theorem dX1_markAllOnDisk_9 : decode cX1_markAllOnDisk 9 = .ok (.aload_n 0, 1) := by decide +kernel
theorem dX1_markAllOnDisk_10 : decode cX1_markAllOnDisk 10 = .ok (.getfield 47, 3) := by decide +kernel
theorem dX1_markAllOnDisk_13 : decode cX1_markAllOnDisk 13 = .ok (.putfield 50, 3) := by decide +kernel
theorem dX1_markAllOnDisk_16 : decode cX1_markAllOnDisk 16 = .ok (.return_, 1) := by decide +kernel
set_option maxRecDepth 20000 in
theorem ggX1_dropMemory_X1_kindOf : GoodIn wsX1_dropMemory wsX1_kindOf := goodIn_r _ [10, 11, 12, 13, 14, 15, 16, 17, 18, 23, 24, 25, 26, 27, 28, 29, 30, 31] (by decide +kernel) (by decide +kernel)
set_option maxRecDepth 20000 in
theorem gX1_dropMemory_X1_kindOf : GoodIn wsX1_dropMemory (wsV RX1 44 RX1 yX1_kindOf wsX1_kindOf) := goodIn_app (goodIn_of _ (by decide +kernel)) ggX1_dropMemory_X1_kindOf
set_option maxRecDepth 20000 in
theorem ggX1_dropMemory_X0_at : GoodIn wsX1_dropMemory wsX0_at := goodIn_r _ [17, 18, 31] (by decide +kernel) (by decide +kernel)
set_option maxRecDepth 20000 in
theorem gX1_dropMemory_X0_at : GoodIn wsX1_dropMemory (wsV RX1 33 RX0 yX0_at wsX0_at) := goodIn_app (goodIn_of _ (by decide +kernel)) ggX1_dropMemory_X0_at
set_option maxRecDepth 20000 in
theorem ggX1_dropMemory_X0_set : GoodIn wsX1_dropMemory wsX0_set := goodIn_r _ [22, 18, 31] (by decide +kernel) (by decide +kernel)
set_option maxRecDepth 20000 in
theorem gX1_dropMemory_X0_set : GoodIn wsX1_dropMemory (wsV RX1 53 RX0 yX0_set wsX0_set) := goodIn_app (goodIn_of _ (by decide +kernel)) ggX1_dropMemory_X0_set
theorem dX1_dropMemory_0 : decode cX1_dropMemory 0 = .ok (.aload_n 0, 1) := by decide +kernel
theorem dX1_dropMemory_1 : decode cX1_dropMemory 1 = .ok (.getfield 75, 3) := by decide +kernel
theorem dX1_dropMemory_4 : decode cX1_dropMemory 4 = .ok (.iconst 1, 1) := by decide +kernel
theorem dX1_dropMemory_5 : decode cX1_dropMemory 5 = .ok (.iadd, 1) := by decide +kernel
theorem dX1_dropMemory_6 : decode cX1_dropMemory 6 = .ok (.istore_n 1, 1) := by decide +kernel
theorem dX1_dropMemory_7 : decode cX1_dropMemory 7 = .ok (.iload_n 1, 1) := by decide +kernel
theorem dX1_dropMemory_8 : decode cX1_dropMemory 8 = .ok (.aload_n 0, 1) := by decide +kernel
theorem dX1_dropMemory_9 : decode cX1_dropMemory 9 = .ok (.getfield 29, 3) := by decide +kernel
theorem dX1_dropMemory_12 : decode cX1_dropMemory 12 = .ok (.if_icmp .gt 33, 3) := by decide +kernel
theorem dX1_dropMemory_15 : decode cX1_dropMemory 15 = .ok (.aload_n 0, 1) := by decide +kernel
theorem dX1_dropMemory_16 : decode cX1_dropMemory 16 = .ok (.iload_n 1, 1) := by decide +kernel
theorem dX1_dropMemory_17 : decode cX1_dropMemory 17 = .ok (.invokevirtual 44, 3) := by decide +kernel
theorem dX1_dropMemory_20 : decode cX1_dropMemory 20 = .ok (.istore_n 2, 1) := by decide +kernel
theorem dX1_dropMemory_21 : decode cX1_dropMemory 21 = .ok (.aload_n 0, 1) := by decide +kernel
theorem dX1_dropMemory_22 : decode cX1_dropMemory 22 = .ok (.getfield 23, 3) := by decide +kernel
theorem dX1_dropMemory_25 : decode cX1_dropMemory 25 = .ok (.iload_n 2, 1) := by decide +kernel
theorem dX1_dropMemory_26 : decode cX1_dropMemory 26 = .ok (.aload_n 0, 1) := by decide +kernel
theorem dX1_dropMemory_27 : decode cX1_dropMemory 27 = .ok (.getfield 23, 3) := by decide +kernel
theorem dX1_dropMemory_30 : decode cX1_dropMemory 30 = .ok (.iload_n 2, 1) := by decide +kernel
theorem dX1_dropMemory_31 : decode cX1_dropMemory 31 = .ok (.invokevirtual 33, 3) := by decide +kernel
theorem dX1_dropMemory_34 : decode cX1_dropMemory 34 = .ok (.iconst 1, 1) := by decide +kernel
theorem dX1_dropMemory_35 : decode cX1_dropMemory 35 = .ok (.isub, 1) := by decide +kernel
theorem dX1_dropMemory_36 : decode cX1_dropMemory 36 = .ok (.invokevirtual 53, 3) := by decide +kernel
theorem dX1_dropMemory_39 : decode cX1_dropMemory 39 = .ok (.iinc 1 1, 3) := by decide +kernel
theorem dX1_dropMemory_42 : decode cX1_dropMemory 42 = .ok (.goto (-35), 3) := by decide +kernel
theorem dX1_dropMemory_45 : decode cX1_dropMemory 45 = .ok (.aload_n 0, 1) := by decide +kernel
theorem dX1_dropMemory_46 : decode cX1_dropMemory 46 = .ok (.aload_n 0, 1) := by decide +kernel
theorem dX1_dropMemory_47 : decode cX1_dropMemory 47 = .ok (.getfield 75, 3) := by decide +kernel
theorem dX1_dropMemory_50 : decode cX1_dropMemory 50 = .ok (.putfield 29, 3) := by decide +kernel
theorem dX1_dropMemory_53 : decode cX1_dropMemory 53 = .ok (.aload_n 0, 1) := by decide +kernel
theorem dX1_dropMemory_54 : decode cX1_dropMemory 54 = .ok (.aload_n 0, 1) := by decide +kernel
theorem dX1_dropMemory_55 : decode cX1_dropMemory 55 = .ok (.getfield 50, 3) := by decide +kernel
theorem dX1_dropMemory_58 : decode cX1_dropMemory 58 = .ok (.putfield 47, 3) := by decide +kernel
theorem dX1_dropMemory_61 : decode cX1_dropMemory 61 = .ok (.return_, 1) := by decide +kernel
set_option maxRecDepth 20000 in
theorem ggX1_clear_X1_dropMemory : GoodIn wsX1_clear wsX1_dropMemory := goodIn_r _ [7, 1, 8, 9, 2, 10, 11, 12, 13, 6, 14, 15, 16, 17, 18, 19, 20, 21, 22, 23, 24, 25, 26, 27, 28, 29, 30, 31, 32, 33, 34, 35] (by decide +kernel) (by decide +kernel)
set_option maxRecDepth 20000 in
theorem gX1_clear_X1_dropMemory : GoodIn wsX1_clear (wsV RX1 78 RX1 yX1_dropMemory wsX1_dropMemory) := goodIn_app (goodIn_of _ (by decide +kernel)) ggX1_clear_X1_dropMemory
theorem dX1_clear_0 : decode cX1_clear 0 = .ok (.aload_n 0, 1) := by decide +kernel
theorem dX1_clear_1 : decode cX1_clear 1 = .ok (.iconst 0, 1) := by decide +kernel
theorem dX1_clear_2 : decode cX1_clear 2 = .ok (.putfield 75, 3) := by decide +kernel
theorem dX1_clear_5 : decode cX1_clear 5 = .ok (.aload_n 0, 1) := by decide +kernel
theorem dX1_clear_6 : decode cX1_clear 6 = .ok (.iconst 0, 1) := by decide +kernel
theorem dX1_clear_7 : decode cX1_clear 7 = .ok (.putfield 50, 3) := by decide +kernel
theorem dX1_clear_10 : decode cX1_clear 10 = .ok (.aload_n 0, 1) := by decide +kernel
theorem dX1_clear_11 : decode cX1_clear 11 = .ok (.invokevirtual 78, 3) := by decide +kernel
theorem dX1_clear_14 : decode cX1_clear 14 = .ok (.return_, 1) := by decide +kernel
set_option maxRecDepth 20000 in
theorem ggX1_read_X1_judgeNext : GoodIn wsX1_read wsX1_judgeNext := goodIn_r _ [7, 1, 8, 9, 10, 11, 12, 13, 14, 15, 16, 17, 18, 19, 20, 21, 22, 23, 24, 25, 26, 27, 28, 29, 30, 31, 32, 33, 34, 35, 36, 37, 6, 38, 39, 62, 63, 64, 65, 66, 67, 68, 69, 70] (by decide +kernel) (by decide +kernel)
set_option maxRecDepth 20000 in
theorem gX1_read_X1_judgeNext : GoodIn wsX1_read (wsV RX1 81 RX1 yX1_judgeNext wsX1_judgeNext) := goodIn_app (goodIn_of _ (by decide +kernel)) ggX1_read_X1_judgeNext
set_option maxRecDepth 20000 in
theorem ggX1_read_X0_length : GoodIn wsX1_read wsX0_length := goodIn_r _ [23, 14, 70] (by decide +kernel) (by decide +kernel)
set_option maxRecDepth 20000 in
theorem gX1_read_X0_length : GoodIn wsX1_read (wsV RX1 85 RX0 yX0_length wsX0_length) := goodIn_app (goodIn_of _ (by decide +kernel)) ggX1_read_X0_length
set_option maxRecDepth 20000 in
theorem ggX1_read_X0_at : GoodIn wsX1_read wsX0_at := goodIn_r _ [18, 14, 70] (by decide +kernel) (by decide +kernel)
set_option maxRecDepth 20000 in
theorem gX1_read_X0_at : GoodIn wsX1_read (wsV RX1 33 RX0 yX0_at wsX0_at) := goodIn_app (goodIn_of _ (by decide +kernel)) ggX1_read_X0_at
set_option maxRecDepth 20000 in
theorem ggX1_read_X0_copy : GoodIn wsX1_read wsX0_copy := goodIn_r _ [43, 15, 16, 17, 12, 18, 14, 44, 45, 46, 47, 70] (by decide +kernel) (by decide +kernel)
set_option maxRecDepth 20000 in
theorem gX1_read_X0_copy : GoodIn wsX1_read (wsV RX1 89 RX0 yX0_copy wsX0_copy) := goodIn_app (goodIn_of _ (by decide +kernel)) ggX1_read_X0_copy
set_option maxRecDepth 20000 in
theorem ggX1_read_X1_enlistNext : GoodIn wsX1_read wsX1_enlistNext := goodIn_r _ [51, 8, 52, 1, 39, 53, 45, 46, 12, 47, 14, 54, 55, 56, 6, 57, 2, 19, 16, 17, 18, 58, 59, 60, 61, 62, 63, 64, 65, 66, 67, 68, 69, 70] (by decide +kernel) (by decide +kernel)
set_option maxRecDepth 20000 in
theorem gX1_read_X1_enlistNext : GoodIn wsX1_read (wsV RX1 65 RX1 yX1_enlistNext wsX1_enlistNext) := goodIn_app (goodIn_of _ (by decide +kernel)) ggX1_read_X1_enlistNext
theorem dX1_read_0 : decode cX1_read 0 = .ok (.aload_n 0, 1) := by decide +kernel
theorem dX1_read_1 : decode cX1_read 1 = .ok (.aload_n 1, 1) := by decide +kernel
theorem dX1_read_2 : decode cX1_read 2 = .ok (.invokevirtual 81, 3) := by decide +kernel
theorem dX1_read_5 : decode cX1_read 5 = .ok (.istore_n 2, 1) := by decide +kernel
theorem dX1_read_6 : decode cX1_read 6 = .ok (.iconst 0, 1) := by decide +kernel
theorem dX1_read_7 : decode cX1_read 7 = .ok (.istore_n 3, 1) := by decide +kernel
theorem dX1_read_8 : decode cX1_read 8 = .ok (.iload_n 3, 1) := by decide +kernel
theorem dX1_read_9 : decode cX1_read 9 = .ok (.aload_n 1, 1) := by decide +kernel
theorem dX1_read_10 : decode cX1_read 10 = .ok (.invokevirtual 85, 3) := by decide +kernel
theorem dX1_read_13 : decode cX1_read 13 = .ok (.if_icmp .ge 58, 3) := by decide +kernel
theorem dX1_read_16 : decode cX1_read 16 = .ok (.iload_n 2, 1) := by decide +kernel
theorem dX1_read_17 : decode cX1_read 17 = .ok (.iconst (-1), 1) := by decide +kernel
theorem dX1_read_18 : decode cX1_read 18 = .ok (.if_icmp .ne 53, 3) := by decide +kernel
theorem dX1_read_21 : decode cX1_read 21 = .ok (.aload_n 1, 1) := by decide +kernel
theorem dX1_read_22 : decode cX1_read 22 = .ok (.aload_n 0, 1) := by decide +kernel
theorem dX1_read_23 : decode cX1_read 23 = .ok (.getfield 47, 3) := by decide +kernel
theorem dX1_read_26 : decode cX1_read 26 = .ok (.iconst 4, 1) := by decide +kernel
theorem dX1_read_27 : decode cX1_read 27 = .ok (.iadd, 1) := by decide +kernel
theorem dX1_read_28 : decode cX1_read 28 = .ok (.invokevirtual 33, 3) := by decide +kernel
theorem dX1_read_31 : decode cX1_read 31 = .ok (.istore 4, 2) := by decide +kernel
theorem dX1_read_33 : decode cX1_read 33 = .ok (.aload_n 0, 1) := by decide +kernel
theorem dX1_read_34 : decode cX1_read 34 = .ok (.getfield 14, 3) := by decide +kernel
theorem dX1_read_37 : decode cX1_read 37 = .ok (.aload_n 1, 1) := by decide +kernel
theorem dX1_read_38 : decode cX1_read 38 = .ok (.aload_n 0, 1) := by decide +kernel
theorem dX1_read_39 : decode cX1_read 39 = .ok (.getfield 47, 3) := by decide +kernel
theorem dX1_read_42 : decode cX1_read 42 = .ok (.aload_n 0, 1) := by decide +kernel
theorem dX1_read_43 : decode cX1_read 43 = .ok (.getfield 47, 3) := by decide +kernel
theorem dX1_read_46 : decode cX1_read 46 = .ok (.bipush 9, 2) := by decide +kernel
theorem dX1_read_48 : decode cX1_read 48 = .ok (.iadd, 1) := by decide +kernel
theorem dX1_read_49 : decode cX1_read 49 = .ok (.iload 4, 2) := by decide +kernel
theorem dX1_read_51 : decode cX1_read 51 = .ok (.iadd, 1) := by decide +kernel
theorem dX1_read_52 : decode cX1_read 52 = .ok (.invokevirtual 89, 3) := by decide +kernel
theorem dX1_read_55 : decode cX1_read 55 = .ok (.aload_n 0, 1) := by decide +kernel
theorem dX1_read_56 : decode cX1_read 56 = .ok (.invokevirtual 65, 3) := by decide +kernel
theorem dX1_read_59 : decode cX1_read 59 = .ok (.aload_n 0, 1) := by decide +kernel
theorem dX1_read_60 : decode cX1_read 60 = .ok (.aload_n 1, 1) := by decide +kernel
theorem dX1_read_61 : decode cX1_read 61 = .ok (.invokevirtual 81, 3) := by decide +kernel
theorem dX1_read_64 : decode cX1_read 64 = .ok (.istore_n 2, 1) := by decide +kernel
theorem dX1_read_65 : decode cX1_read 65 = .ok (.iinc 3 1, 3) := by decide +kernel
theorem dX1_read_68 : decode cX1_read 68 = .ok (.goto (-60), 3) := by decide +kernel
theorem dX1_read_71 : decode cX1_read 71 = .ok (.iload_n 2, 1) := by decide +kernel
theorem dX1_read_72 : decode cX1_read 72 = .ok (.ireturn, 1) := by decide +kernel
set_option maxRecDepth 20000 in
theorem ggX1_judgeNext_X0_isZeroFrom : GoodIn wsX1_judgeNext wsX0_isZeroFrom := goodIn_r _ [7, 8, 9, 10, 11, 6, 12, 43] (by decide +kernel) (by decide +kernel)
set_option maxRecDepth 20000 in
theorem gX1_judgeNext_X0_isZeroFrom : GoodIn wsX1_judgeNext (wsV RX1 93 RX0 yX0_isZeroFrom wsX0_isZeroFrom) := goodIn_app (goodIn_of _ (by decide +kernel)) ggX1_judgeNext_X0_isZeroFrom
set_option maxRecDepth 20000 in
theorem ggX1_judgeNext_X0_at : GoodIn wsX1_judgeNext wsX0_at := goodIn_r _ [12, 8, 43] (by decide +kernel) (by decide +kernel)
set_option maxRecDepth 20000 in
theorem gX1_judgeNext_X0_at : GoodIn wsX1_judgeNext (wsV RX1 33 RX0 yX0_at wsX0_at) := goodIn_app (goodIn_of _ (by decide +kernel)) ggX1_judgeNext_X0_at
set_option maxRecDepth 20000 in
theorem ggX1_judgeNext_X0_length : GoodIn wsX1_judgeNext wsX0_length := goodIn_r _ [17, 8, 43] (by decide +kernel) (by decide +kernel)
set_option maxRecDepth 20000 in
theorem gX1_judgeNext_X0_length : GoodIn wsX1_judgeNext (wsV RX1 85 RX0 yX0_length wsX0_length) := goodIn_app (goodIn_of _ (by decide +kernel)) ggX1_judgeNext_X0_length
set_option maxRecDepth 20000 in
theorem ggX1_judgeNext_X2_isKind : GoodIn wsX1_judgeNext wsX2_isKind := goodIn_r _ [20] (by decide +kernel) (by decide +kernel)
set_option maxRecDepth 20000 in
theorem gX1_judgeNext_X2_isKind_n97 : GoodIn wsX1_judgeNext (wsX2_isKind) := ggX1_judgeNext_X2_isKind
set_option maxRecDepth 20000 in
theorem ggX1_judgeNext_X0_numberAt : GoodIn wsX1_judgeNext wsX0_numberAt := goodIn_r _ [24, 9, 10, 11, 6, 12, 8, 43] (by decide +kernel) (by decide +kernel)
set_option maxRecDepth 20000 in
theorem gX1_judgeNext_X0_numberAt : GoodIn wsX1_judgeNext (wsV RX1 100 RX0 yX0_numberAt wsX0_numberAt) := goodIn_app (goodIn_of _ (by decide +kernel)) ggX1_judgeNext_X0_numberAt
set_option maxRecDepth 20000 in
theorem ggX1_judgeNext_X2_sumOfRow : GoodIn wsX1_judgeNext wsX2_sumOfRow := goodIn_r _ [26, 27, 28, 10, 11, 6, 12, 8, 43] (by decide +kernel) (by decide +kernel)
set_option maxRecDepth 20000 in
theorem gX1_judgeNext_X2_sumOfRow_n61 : GoodIn wsX1_judgeNext (wsX2_sumOfRow) := ggX1_judgeNext_X2_sumOfRow
set_option maxRecDepth 20000 in
theorem ggX1_judgeNext_X1_isState : GoodIn wsX1_judgeNext wsX1_isState := goodIn_r _ [33, 34, 21, 22, 23, 6, 24, 9, 10, 11, 12, 8, 13, 35, 36, 37, 38, 39, 40, 41, 42, 43] (by decide +kernel) (by decide +kernel)
set_option maxRecDepth 20000 in
theorem gX1_judgeNext_X1_isState : GoodIn wsX1_judgeNext (wsV RX1 103 RX1 yX1_isState wsX1_isState) := goodIn_app (goodIn_of _ (by decide +kernel)) ggX1_judgeNext_X1_isState
theorem dX1_judgeNext_0 : decode cX1_judgeNext 0 = .ok (.aload_n 1, 1) := by decide +kernel
theorem dX1_judgeNext_1 : decode cX1_judgeNext 1 = .ok (.aload_n 0, 1) := by decide +kernel
theorem dX1_judgeNext_2 : decode cX1_judgeNext 2 = .ok (.getfield 47, 3) := by decide +kernel
theorem dX1_judgeNext_5 : decode cX1_judgeNext 5 = .ok (.invokevirtual 93, 3) := by decide +kernel
theorem dX1_judgeNext_8 : decode cX1_judgeNext 8 = .ok (.ifCond .eq 5, 3) := by decide +kernel
theorem dX1_judgeNext_11 : decode cX1_judgeNext 11 = .ok (.iconst 0, 1) := by decide +kernel
theorem dX1_judgeNext_12 : decode cX1_judgeNext 12 = .ok (.ireturn, 1) := by decide +kernel
theorem dX1_judgeNext_13 : decode cX1_judgeNext 13 = .ok (.aload_n 1, 1) := by decide +kernel
theorem dX1_judgeNext_14 : decode cX1_judgeNext 14 = .ok (.aload_n 0, 1) := by decide +kernel
theorem dX1_judgeNext_15 : decode cX1_judgeNext 15 = .ok (.getfield 47, 3) := by decide +kernel
theorem dX1_judgeNext_18 : decode cX1_judgeNext 18 = .ok (.invokevirtual 33, 3) := by decide +kernel
theorem dX1_judgeNext_21 : decode cX1_judgeNext 21 = .ok (.bipush 90, 2) := by decide +kernel
theorem dX1_judgeNext_23 : decode cX1_judgeNext 23 = .ok (.if_icmp .eq 5, 3) := by decide +kernel
theorem dX1_judgeNext_26 : decode cX1_judgeNext 26 = .ok (.iconst 1, 1) := by decide +kernel
theorem dX1_judgeNext_27 : decode cX1_judgeNext 27 = .ok (.ireturn, 1) := by decide +kernel
theorem dX1_judgeNext_28 : decode cX1_judgeNext 28 = .ok (.aload_n 0, 1) := by decide +kernel
theorem dX1_judgeNext_29 : decode cX1_judgeNext 29 = .ok (.getfield 47, 3) := by decide +kernel
theorem dX1_judgeNext_32 : decode cX1_judgeNext 32 = .ok (.iconst 4, 1) := by decide +kernel
theorem dX1_judgeNext_33 : decode cX1_judgeNext 33 = .ok (.iadd, 1) := by decide +kernel
theorem dX1_judgeNext_34 : decode cX1_judgeNext 34 = .ok (.aload_n 1, 1) := by decide +kernel
theorem dX1_judgeNext_35 : decode cX1_judgeNext 35 = .ok (.invokevirtual 85, 3) := by decide +kernel
theorem dX1_judgeNext_38 : decode cX1_judgeNext 38 = .ok (.if_icmp .lt 5, 3) := by decide +kernel
theorem dX1_judgeNext_41 : decode cX1_judgeNext 41 = .ok (.iconst 4, 1) := by decide +kernel
theorem dX1_judgeNext_42 : decode cX1_judgeNext 42 = .ok (.ireturn, 1) := by decide +kernel
theorem dX1_judgeNext_43 : decode cX1_judgeNext 43 = .ok (.aload_n 1, 1) := by decide +kernel
theorem dX1_judgeNext_44 : decode cX1_judgeNext 44 = .ok (.aload_n 0, 1) := by decide +kernel
theorem dX1_judgeNext_45 : decode cX1_judgeNext 45 = .ok (.getfield 47, 3) := by decide +kernel
theorem dX1_judgeNext_48 : decode cX1_judgeNext 48 = .ok (.iconst 1, 1) := by decide +kernel
theorem dX1_judgeNext_49 : decode cX1_judgeNext 49 = .ok (.iadd, 1) := by decide +kernel
theorem dX1_judgeNext_50 : decode cX1_judgeNext 50 = .ok (.invokevirtual 33, 3) := by decide +kernel
theorem dX1_judgeNext_53 : decode cX1_judgeNext 53 = .ok (.invokestatic 97, 3) := by decide +kernel
theorem dX1_judgeNext_56 : decode cX1_judgeNext 56 = .ok (.ifCond .ne 5, 3) := by decide +kernel
theorem dX1_judgeNext_59 : decode cX1_judgeNext 59 = .ok (.iconst 2, 1) := by decide +kernel
theorem dX1_judgeNext_60 : decode cX1_judgeNext 60 = .ok (.ireturn, 1) := by decide +kernel
theorem dX1_judgeNext_61 : decode cX1_judgeNext 61 = .ok (.aload_n 1, 1) := by decide +kernel
theorem dX1_judgeNext_62 : decode cX1_judgeNext 62 = .ok (.aload_n 0, 1) := by decide +kernel
theorem dX1_judgeNext_63 : decode cX1_judgeNext 63 = .ok (.getfield 47, 3) := by decide +kernel
theorem dX1_judgeNext_66 : decode cX1_judgeNext 66 = .ok (.iconst 2, 1) := by decide +kernel
theorem dX1_judgeNext_67 : decode cX1_judgeNext 67 = .ok (.iadd, 1) := by decide +kernel
theorem dX1_judgeNext_68 : decode cX1_judgeNext 68 = .ok (.iconst 2, 1) := by decide +kernel
theorem dX1_judgeNext_69 : decode cX1_judgeNext 69 = .ok (.invokevirtual 100, 3) := by decide +kernel
theorem dX1_judgeNext_72 : decode cX1_judgeNext 72 = .ok (.aload_n 0, 1) := by decide +kernel
theorem dX1_judgeNext_73 : decode cX1_judgeNext 73 = .ok (.getfield 29, 3) := by decide +kernel
theorem dX1_judgeNext_76 : decode cX1_judgeNext 76 = .ok (.iconst 1, 1) := by decide +kernel
theorem dX1_judgeNext_77 : decode cX1_judgeNext 77 = .ok (.iadd, 1) := by decide +kernel
theorem dX1_judgeNext_78 : decode cX1_judgeNext 78 = .ok (.if_icmp .eq 5, 3) := by decide +kernel
theorem dX1_judgeNext_81 : decode cX1_judgeNext 81 = .ok (.iconst 3, 1) := by decide +kernel
theorem dX1_judgeNext_82 : decode cX1_judgeNext 82 = .ok (.ireturn, 1) := by decide +kernel
theorem dX1_judgeNext_83 : decode cX1_judgeNext 83 = .ok (.aload_n 1, 1) := by decide +kernel
theorem dX1_judgeNext_84 : decode cX1_judgeNext 84 = .ok (.aload_n 0, 1) := by decide +kernel
theorem dX1_judgeNext_85 : decode cX1_judgeNext 85 = .ok (.getfield 47, 3) := by decide +kernel
theorem dX1_judgeNext_88 : decode cX1_judgeNext 88 = .ok (.iconst 4, 1) := by decide +kernel
theorem dX1_judgeNext_89 : decode cX1_judgeNext 89 = .ok (.iadd, 1) := by decide +kernel
theorem dX1_judgeNext_90 : decode cX1_judgeNext 90 = .ok (.invokevirtual 33, 3) := by decide +kernel
theorem dX1_judgeNext_93 : decode cX1_judgeNext 93 = .ok (.istore_n 2, 1) := by decide +kernel
theorem dX1_judgeNext_94 : decode cX1_judgeNext 94 = .ok (.iload_n 2, 1) := by decide +kernel
theorem dX1_judgeNext_95 : decode cX1_judgeNext 95 = .ok (.bipush 20, 2) := by decide +kernel
theorem dX1_judgeNext_97 : decode cX1_judgeNext 97 = .ok (.if_icmp .gt 19, 3) := by decide +kernel
theorem dX1_judgeNext_100 : decode cX1_judgeNext 100 = .ok (.aload_n 0, 1) := by decide +kernel
theorem dX1_judgeNext_101 : decode cX1_judgeNext 101 = .ok (.getfield 47, 3) := by decide +kernel
theorem dX1_judgeNext_104 : decode cX1_judgeNext 104 = .ok (.bipush 9, 2) := by decide +kernel
theorem dX1_judgeNext_106 : decode cX1_judgeNext 106 = .ok (.iadd, 1) := by decide +kernel
theorem dX1_judgeNext_107 : decode cX1_judgeNext 107 = .ok (.iload_n 2, 1) := by decide +kernel
theorem dX1_judgeNext_108 : decode cX1_judgeNext 108 = .ok (.iadd, 1) := by decide +kernel
theorem dX1_judgeNext_109 : decode cX1_judgeNext 109 = .ok (.aload_n 1, 1) := by decide +kernel
theorem dX1_judgeNext_110 : decode cX1_judgeNext 110 = .ok (.invokevirtual 85, 3) := by decide +kernel
theorem dX1_judgeNext_113 : decode cX1_judgeNext 113 = .ok (.if_icmp .le 5, 3) := by decide +kernel
theorem dX1_judgeNext_116 : decode cX1_judgeNext 116 = .ok (.iconst 4, 1) := by decide +kernel
theorem dX1_judgeNext_117 : decode cX1_judgeNext 117 = .ok (.ireturn, 1) := by decide +kernel
theorem dX1_judgeNext_118 : decode cX1_judgeNext 118 = .ok (.aload_n 1, 1) := by decide +kernel
theorem dX1_judgeNext_119 : decode cX1_judgeNext 119 = .ok (.aload_n 0, 1) := by decide +kernel
theorem dX1_judgeNext_120 : decode cX1_judgeNext 120 = .ok (.getfield 47, 3) := by decide +kernel
theorem dX1_judgeNext_123 : decode cX1_judgeNext 123 = .ok (.iconst 5, 1) := by decide +kernel
theorem dX1_judgeNext_124 : decode cX1_judgeNext 124 = .ok (.iadd, 1) := by decide +kernel
theorem dX1_judgeNext_125 : decode cX1_judgeNext 125 = .ok (.iload_n 2, 1) := by decide +kernel
theorem dX1_judgeNext_126 : decode cX1_judgeNext 126 = .ok (.iadd, 1) := by decide +kernel
theorem dX1_judgeNext_127 : decode cX1_judgeNext 127 = .ok (.iconst 4, 1) := by decide +kernel
theorem dX1_judgeNext_128 : decode cX1_judgeNext 128 = .ok (.invokevirtual 100, 3) := by decide +kernel
theorem dX1_judgeNext_131 : decode cX1_judgeNext 131 = .ok (.aload_n 1, 1) := by decide +kernel
theorem dX1_judgeNext_132 : decode cX1_judgeNext 132 = .ok (.aload_n 0, 1) := by decide +kernel
theorem dX1_judgeNext_133 : decode cX1_judgeNext 133 = .ok (.getfield 47, 3) := by decide +kernel
theorem dX1_judgeNext_136 : decode cX1_judgeNext 136 = .ok (.iload_n 2, 1) := by decide +kernel
theorem dX1_judgeNext_137 : decode cX1_judgeNext 137 = .ok (.invokestatic 61, 3) := by decide +kernel
theorem dX1_judgeNext_140 : decode cX1_judgeNext 140 = .ok (.if_icmp .eq 5, 3) := by decide +kernel
theorem dX1_judgeNext_143 : decode cX1_judgeNext 143 = .ok (.iconst 5, 1) := by decide +kernel
theorem dX1_judgeNext_144 : decode cX1_judgeNext 144 = .ok (.ireturn, 1) := by decide +kernel
theorem dX1_judgeNext_145 : decode cX1_judgeNext 145 = .ok (.aload_n 1, 1) := by decide +kernel
theorem dX1_judgeNext_146 : decode cX1_judgeNext 146 = .ok (.aload_n 0, 1) := by decide +kernel
theorem dX1_judgeNext_147 : decode cX1_judgeNext 147 = .ok (.getfield 47, 3) := by decide +kernel
theorem dX1_judgeNext_150 : decode cX1_judgeNext 150 = .ok (.iconst 1, 1) := by decide +kernel
theorem dX1_judgeNext_151 : decode cX1_judgeNext 151 = .ok (.iadd, 1) := by decide +kernel
theorem dX1_judgeNext_152 : decode cX1_judgeNext 152 = .ok (.invokevirtual 33, 3) := by decide +kernel
theorem dX1_judgeNext_155 : decode cX1_judgeNext 155 = .ok (.iconst 5, 1) := by decide +kernel
theorem dX1_judgeNext_156 : decode cX1_judgeNext 156 = .ok (.if_icmp .ne 21, 3) := by decide +kernel
theorem dX1_judgeNext_159 : decode cX1_judgeNext 159 = .ok (.aload_n 0, 1) := by decide +kernel
theorem dX1_judgeNext_160 : decode cX1_judgeNext 160 = .ok (.aload_n 1, 1) := by decide +kernel
theorem dX1_judgeNext_161 : decode cX1_judgeNext 161 = .ok (.aload_n 0, 1) := by decide +kernel
theorem dX1_judgeNext_162 : decode cX1_judgeNext 162 = .ok (.getfield 47, 3) := by decide +kernel
theorem dX1_judgeNext_165 : decode cX1_judgeNext 165 = .ok (.iconst 5, 1) := by decide +kernel
theorem dX1_judgeNext_166 : decode cX1_judgeNext 166 = .ok (.iadd, 1) := by decide +kernel
theorem dX1_judgeNext_167 : decode cX1_judgeNext 167 = .ok (.iload_n 2, 1) := by decide +kernel
theorem dX1_judgeNext_168 : decode cX1_judgeNext 168 = .ok (.invokevirtual 103, 3) := by decide +kernel
theorem dX1_judgeNext_171 : decode cX1_judgeNext 171 = .ok (.ifCond .ne 6, 3) := by decide +kernel
theorem dX1_judgeNext_174 : decode cX1_judgeNext 174 = .ok (.bipush 6, 2) := by decide +kernel
theorem dX1_judgeNext_176 : decode cX1_judgeNext 176 = .ok (.ireturn, 1) := by decide +kernel
theorem dX1_judgeNext_177 : decode cX1_judgeNext 177 = .ok (.iconst (-1), 1) := by decide +kernel
theorem dX1_judgeNext_178 : decode cX1_judgeNext 178 = .ok (.ireturn, 1) := by decide +kernel
set_option maxRecDepth 20000 in
theorem ggX1_isState_X0_numberAt : GoodIn wsX1_isState wsX0_numberAt := goodIn_r _ [6, 7, 8, 9, 5, 10, 11, 21] (by decide +kernel) (by decide +kernel)
set_option maxRecDepth 20000 in
theorem gX1_isState_X0_numberAt : GoodIn wsX1_isState (wsV RX1 100 RX0 yX0_numberAt wsX0_numberAt) := goodIn_app (goodIn_of _ (by decide +kernel)) ggX1_isState_X0_numberAt
set_option maxRecDepth 20000 in
theorem ggX1_isState_X0_at : GoodIn wsX1_isState wsX0_at := goodIn_r _ [10, 11, 21] (by decide +kernel) (by decide +kernel)
set_option maxRecDepth 20000 in
theorem gX1_isState_X0_at : GoodIn wsX1_isState (wsV RX1 33 RX0 yX0_at wsX0_at) := goodIn_app (goodIn_of _ (by decide +kernel)) ggX1_isState_X0_at
theorem dX1_isState_0 : decode cX1_isState 0 = .ok (.iload_n 3, 1) := by decide +kernel
theorem dX1_isState_1 : decode cX1_isState 1 = .ok (.bipush 8, 2) := by decide +kernel
theorem dX1_isState_3 : decode cX1_isState 3 = .ok (.if_icmp .eq 5, 3) := by decide +kernel
theorem dX1_isState_6 : decode cX1_isState 6 = .ok (.iconst 0, 1) := by decide +kernel
theorem dX1_isState_7 : decode cX1_isState 7 = .ok (.ireturn, 1) := by decide +kernel
theorem dX1_isState_8 : decode cX1_isState 8 = .ok (.iconst 1, 1) := by decide +kernel
theorem dX1_isState_9 : decode cX1_isState 9 = .ok (.istore 4, 2) := by decide +kernel
theorem dX1_isState_11 : decode cX1_isState 11 = .ok (.iload 4, 2) := by decide +kernel
theorem dX1_isState_13 : decode cX1_isState 13 = .ok (.iconst 5, 1) := by decide +kernel
theorem dX1_isState_14 : decode cX1_isState 14 = .ok (.if_icmp .ge 36, 3) := by decide +kernel
theorem dX1_isState_17 : decode cX1_isState 17 = .ok (.aload_n 1, 1) := by decide +kernel
theorem dX1_isState_18 : decode cX1_isState 18 = .ok (.iload_n 2, 1) := by decide +kernel
theorem dX1_isState_19 : decode cX1_isState 19 = .ok (.iconst 2, 1) := by decide +kernel
theorem dX1_isState_20 : decode cX1_isState 20 = .ok (.iload 4, 2) := by decide +kernel
theorem dX1_isState_22 : decode cX1_isState 22 = .ok (.iconst 1, 1) := by decide +kernel
theorem dX1_isState_23 : decode cX1_isState 23 = .ok (.isub, 1) := by decide +kernel
theorem dX1_isState_24 : decode cX1_isState 24 = .ok (.imul, 1) := by decide +kernel
theorem dX1_isState_25 : decode cX1_isState 25 = .ok (.iadd, 1) := by decide +kernel
theorem dX1_isState_26 : decode cX1_isState 26 = .ok (.iconst 2, 1) := by decide +kernel
theorem dX1_isState_27 : decode cX1_isState 27 = .ok (.invokevirtual 100, 3) := by decide +kernel
theorem dX1_isState_30 : decode cX1_isState 30 = .ok (.aload_n 0, 1) := by decide +kernel
theorem dX1_isState_31 : decode cX1_isState 31 = .ok (.getfield 23, 3) := by decide +kernel
theorem dX1_isState_34 : decode cX1_isState 34 = .ok (.iload 4, 2) := by decide +kernel
theorem dX1_isState_36 : decode cX1_isState 36 = .ok (.invokevirtual 33, 3) := by decide +kernel
theorem dX1_isState_39 : decode cX1_isState 39 = .ok (.if_icmp .eq 5, 3) := by decide +kernel
theorem dX1_isState_42 : decode cX1_isState 42 = .ok (.iconst 0, 1) := by decide +kernel
theorem dX1_isState_43 : decode cX1_isState 43 = .ok (.ireturn, 1) := by decide +kernel
theorem dX1_isState_44 : decode cX1_isState 44 = .ok (.iinc 4 1, 3) := by decide +kernel
theorem dX1_isState_47 : decode cX1_isState 47 = .ok (.goto (-36), 3) := by decide +kernel
theorem dX1_isState_50 : decode cX1_isState 50 = .ok (.iconst 1, 1) := by decide +kernel
theorem dX1_isState_51 : decode cX1_isState 51 = .ok (.ireturn, 1) := by decide +kernel
set_option maxRecDepth 20000 in
theorem ggX1_fillState_X0_at : GoodIn wsX1_fillState wsX0_at := goodIn_r _ [7, 8, 25] (by decide +kernel) (by decide +kernel)
set_option maxRecDepth 20000 in
theorem gX1_fillState_X0_at : GoodIn wsX1_fillState (wsV RX1 33 RX0 yX0_at wsX0_at) := goodIn_app (goodIn_of _ (by decide +kernel)) ggX1_fillState_X0_at
set_option maxRecDepth 20000 in
theorem ggX1_fillState_X0_setNumber : GoodIn wsX1_fillState wsX0_setNumber := goodIn_r _ [12, 13, 14, 15, 6, 16, 8, 25] (by decide +kernel) (by decide +kernel)
set_option maxRecDepth 20000 in
theorem gX1_fillState_X0_setNumber : GoodIn wsX1_fillState (wsV RX1 57 RX0 yX0_setNumber wsX0_setNumber) := goodIn_app (goodIn_of _ (by decide +kernel)) ggX1_fillState_X0_setNumber
theorem dX1_fillState_0 : decode cX1_fillState 0 = .ok (.iconst 1, 1) := by decide +kernel
theorem dX1_fillState_1 : decode cX1_fillState 1 = .ok (.istore_n 1, 1) := by decide +kernel
theorem dX1_fillState_2 : decode cX1_fillState 2 = .ok (.iload_n 1, 1) := by decide +kernel
theorem dX1_fillState_3 : decode cX1_fillState 3 = .ok (.iconst 5, 1) := by decide +kernel
theorem dX1_fillState_4 : decode cX1_fillState 4 = .ok (.if_icmp .ge 30, 3) := by decide +kernel
theorem dX1_fillState_7 : decode cX1_fillState 7 = .ok (.aload_n 0, 1) := by decide +kernel
theorem dX1_fillState_8 : decode cX1_fillState 8 = .ok (.getfield 26, 3) := by decide +kernel
theorem dX1_fillState_11 : decode cX1_fillState 11 = .ok (.iconst 2, 1) := by decide +kernel
theorem dX1_fillState_12 : decode cX1_fillState 12 = .ok (.iload_n 1, 1) := by decide +kernel
theorem dX1_fillState_13 : decode cX1_fillState 13 = .ok (.iconst 1, 1) := by decide +kernel
theorem dX1_fillState_14 : decode cX1_fillState 14 = .ok (.isub, 1) := by decide +kernel
theorem dX1_fillState_15 : decode cX1_fillState 15 = .ok (.imul, 1) := by decide +kernel
theorem dX1_fillState_16 : decode cX1_fillState 16 = .ok (.iconst 2, 1) := by decide +kernel
theorem dX1_fillState_17 : decode cX1_fillState 17 = .ok (.aload_n 0, 1) := by decide +kernel
theorem dX1_fillState_18 : decode cX1_fillState 18 = .ok (.getfield 23, 3) := by decide +kernel
theorem dX1_fillState_21 : decode cX1_fillState 21 = .ok (.iload_n 1, 1) := by decide +kernel
theorem dX1_fillState_22 : decode cX1_fillState 22 = .ok (.invokevirtual 33, 3) := by decide +kernel
theorem dX1_fillState_25 : decode cX1_fillState 25 = .ok (.invokevirtual 57, 3) := by decide +kernel
theorem dX1_fillState_28 : decode cX1_fillState 28 = .ok (.iinc 1 1, 3) := by decide +kernel
theorem dX1_fillState_31 : decode cX1_fillState 31 = .ok (.goto (-29), 3) := by decide +kernel
theorem dX1_fillState_34 : decode cX1_fillState 34 = .ok (.return_, 1) := by decide +kernel
set_option maxRecDepth 20000 in
theorem ggX1_enlistNext_X0_set : GoodIn wsX1_enlistNext wsX0_set := goodIn_r _ [9, 10, 33] (by decide +kernel) (by decide +kernel)
set_option maxRecDepth 20000 in
theorem gX1_enlistNext_X0_set : GoodIn wsX1_enlistNext (wsV RX1 53 RX0 yX0_set wsX0_set) := goodIn_app (goodIn_of _ (by decide +kernel)) ggX1_enlistNext_X0_set
set_option maxRecDepth 20000 in
theorem ggX1_enlistNext_X1_kindOf : GoodIn wsX1_enlistNext wsX1_kindOf := goodIn_r _ [15, 16, 2, 17, 18, 19, 8, 20, 10, 25, 26, 27, 28, 29, 30, 31, 32, 33] (by decide +kernel) (by decide +kernel)
set_option maxRecDepth 20000 in
theorem gX1_enlistNext_X1_kindOf : GoodIn wsX1_enlistNext (wsV RX1 44 RX1 yX1_kindOf wsX1_kindOf) := goodIn_app (goodIn_of _ (by decide +kernel)) ggX1_enlistNext_X1_kindOf
set_option maxRecDepth 20000 in
theorem ggX1_enlistNext_X0_at : GoodIn wsX1_enlistNext wsX0_at := goodIn_r _ [20, 10, 33] (by decide +kernel) (by decide +kernel)
set_option maxRecDepth 20000 in
theorem gX1_enlistNext_X0_at : GoodIn wsX1_enlistNext (wsV RX1 33 RX0 yX0_at wsX0_at) := goodIn_app (goodIn_of _ (by decide +kernel)) ggX1_enlistNext_X0_at
set_option maxRecDepth 20000 in
theorem ggX1_enlistNext_X1_lengthOf : GoodIn wsX1_enlistNext wsX1_lengthOf := goodIn_r _ [24, 16, 2, 17, 18, 19, 8, 20, 10, 25, 26, 27, 28, 29, 30, 31, 32, 33] (by decide +kernel) (by decide +kernel)
set_option maxRecDepth 20000 in
theorem gX1_enlistNext_X1_lengthOf : GoodIn wsX1_enlistNext (wsV RX1 37 RX1 yX1_lengthOf wsX1_lengthOf) := goodIn_app (goodIn_of _ (by decide +kernel)) ggX1_enlistNext_X1_lengthOf
theorem dX1_enlistNext_0 : decode cX1_enlistNext 0 = .ok (.aload_n 0, 1) := by decide +kernel
theorem dX1_enlistNext_1 : decode cX1_enlistNext 1 = .ok (.dup, 1) := by decide +kernel
theorem dX1_enlistNext_2 : decode cX1_enlistNext 2 = .ok (.getfield 29, 3) := by decide +kernel
theorem dX1_enlistNext_5 : decode cX1_enlistNext 5 = .ok (.iconst 1, 1) := by decide +kernel
theorem dX1_enlistNext_6 : decode cX1_enlistNext 6 = .ok (.iadd, 1) := by decide +kernel
theorem dX1_enlistNext_7 : decode cX1_enlistNext 7 = .ok (.putfield 29, 3) := by decide +kernel
theorem dX1_enlistNext_10 : decode cX1_enlistNext 10 = .ok (.aload_n 0, 1) := by decide +kernel
theorem dX1_enlistNext_11 : decode cX1_enlistNext 11 = .ok (.getfield 20, 3) := by decide +kernel
theorem dX1_enlistNext_14 : decode cX1_enlistNext 14 = .ok (.aload_n 0, 1) := by decide +kernel
theorem dX1_enlistNext_15 : decode cX1_enlistNext 15 = .ok (.getfield 29, 3) := by decide +kernel
theorem dX1_enlistNext_18 : decode cX1_enlistNext 18 = .ok (.aload_n 0, 1) := by decide +kernel
theorem dX1_enlistNext_19 : decode cX1_enlistNext 19 = .ok (.getfield 47, 3) := by decide +kernel
theorem dX1_enlistNext_22 : decode cX1_enlistNext 22 = .ok (.invokevirtual 53, 3) := by decide +kernel
theorem dX1_enlistNext_25 : decode cX1_enlistNext 25 = .ok (.aload_n 0, 1) := by decide +kernel
theorem dX1_enlistNext_26 : decode cX1_enlistNext 26 = .ok (.aload_n 0, 1) := by decide +kernel
theorem dX1_enlistNext_27 : decode cX1_enlistNext 27 = .ok (.getfield 29, 3) := by decide +kernel
theorem dX1_enlistNext_30 : decode cX1_enlistNext 30 = .ok (.invokevirtual 44, 3) := by decide +kernel
theorem dX1_enlistNext_33 : decode cX1_enlistNext 33 = .ok (.istore_n 1, 1) := by decide +kernel
theorem dX1_enlistNext_34 : decode cX1_enlistNext 34 = .ok (.aload_n 0, 1) := by decide +kernel
theorem dX1_enlistNext_35 : decode cX1_enlistNext 35 = .ok (.getfield 23, 3) := by decide +kernel
theorem dX1_enlistNext_38 : decode cX1_enlistNext 38 = .ok (.iload_n 1, 1) := by decide +kernel
theorem dX1_enlistNext_39 : decode cX1_enlistNext 39 = .ok (.aload_n 0, 1) := by decide +kernel
theorem dX1_enlistNext_40 : decode cX1_enlistNext 40 = .ok (.getfield 23, 3) := by decide +kernel
theorem dX1_enlistNext_43 : decode cX1_enlistNext 43 = .ok (.iload_n 1, 1) := by decide +kernel
theorem dX1_enlistNext_44 : decode cX1_enlistNext 44 = .ok (.invokevirtual 33, 3) := by decide +kernel
theorem dX1_enlistNext_47 : decode cX1_enlistNext 47 = .ok (.iconst 1, 1) := by decide +kernel
theorem dX1_enlistNext_48 : decode cX1_enlistNext 48 = .ok (.iadd, 1) := by decide +kernel
theorem dX1_enlistNext_49 : decode cX1_enlistNext 49 = .ok (.invokevirtual 53, 3) := by decide +kernel
theorem dX1_enlistNext_52 : decode cX1_enlistNext 52 = .ok (.aload_n 0, 1) := by decide +kernel
theorem dX1_enlistNext_53 : decode cX1_enlistNext 53 = .ok (.dup, 1) := by decide +kernel
theorem dX1_enlistNext_54 : decode cX1_enlistNext 54 = .ok (.getfield 47, 3) := by decide +kernel
theorem dX1_enlistNext_57 : decode cX1_enlistNext 57 = .ok (.bipush 9, 2) := by decide +kernel
theorem dX1_enlistNext_59 : decode cX1_enlistNext 59 = .ok (.aload_n 0, 1) := by decide +kernel
theorem dX1_enlistNext_60 : decode cX1_enlistNext 60 = .ok (.aload_n 0, 1) := by decide +kernel
theorem dX1_enlistNext_61 : decode cX1_enlistNext 61 = .ok (.getfield 29, 3) := by decide +kernel
theorem dX1_enlistNext_64 : decode cX1_enlistNext 64 = .ok (.invokevirtual 37, 3) := by decide +kernel
theorem dX1_enlistNext_67 : decode cX1_enlistNext 67 = .ok (.iadd, 1) := by decide +kernel
theorem dX1_enlistNext_68 : decode cX1_enlistNext 68 = .ok (.iadd, 1) := by decide +kernel
theorem dX1_enlistNext_69 : decode cX1_enlistNext 69 = .ok (.putfield 47, 3) := by decide +kernel
theorem dX1_enlistNext_72 : decode cX1_enlistNext 72 = .ok (.return_, 1) := by decide +kernel
set_option maxRecDepth 20000 in
theorem ggX2_init_X0_init : GoodIn wsX2_init wsX0_init := goodIn_r _ [26, 27, 2, 3, 28, 9, 6, 10, 29, 30, 50] (by decide +kernel) (by decide +kernel)
set_option maxRecDepth 20000 in
theorem gX2_init_X0_init : GoodIn wsX2_init (wsX0_init) := ggX2_init_X0_init
set_option maxRecDepth 20000 in
theorem ggX2_init_X1_init : GoodIn wsX2_init wsX1_init := goodIn_r _ [33, 34, 2, 3, 35, 13, 14, 36, 37, 38, 39, 40, 25, 26, 27, 28, 9, 6, 10, 29, 30, 50, 51, 52, 53, 54, 55, 56, 57, 58] (by decide +kernel) (by decide +kernel)
set_option maxRecDepth 20000 in
theorem gX2_init_X1_init : GoodIn wsX2_init (wsX1_init) := ggX2_init_X1_init
theorem dX2_init_0 : decode cX2_init 0 = .ok (.aload_n 0, 1) := by decide +kernel
theorem dX2_init_1 : decode cX2_init 1 = .ok (.invokespecial 3, 3) := by decide +kernel
theorem dX2_init_4 : decode cX2_init 4 = .ok (.aload_n 0, 1) := by decide +kernel
theorem dX2_init_5 : decode cX2_init 5 = .ok (.iconst 1, 1) := by decide +kernel
theorem dX2_init_6 : decode cX2_init 6 = .ok (.bipush 64, 2) := by decide +kernel
theorem dX2_init_8 : decode cX2_init 8 = .ok (.iload_n 1, 1) := by decide +kernel
theorem dX2_init_9 : decode cX2_init 9 = .ok (.invokestatic 9, 3) := by decide +kernel
theorem dX2_init_12 : decode cX2_init 12 = .ok (.invokestatic 15, 3) := by decide +kernel
theorem dX2_init_15 : decode cX2_init 15 = .ok (.putfield 18, 3) := by decide +kernel
theorem dX2_init_18 : decode cX2_init 18 = .ok (.aload_n 0, 1) := by decide +kernel
theorem dX2_init_19 : decode cX2_init 19 = .ok (.getfield 18, 3) := by decide +kernel
theorem dX2_init_22 : decode cX2_init 22 = .ok (.bipush 32, 2) := by decide +kernel
theorem dX2_init_24 : decode cX2_init 24 = .ok (.imul, 1) := by decide +kernel
theorem dX2_init_25 : decode cX2_init 25 = .ok (.istore_n 2, 1) := by decide +kernel
theorem dX2_init_26 : decode cX2_init 26 = .ok (.aload_n 0, 1) := by decide +kernel
theorem dX2_init_27 : decode cX2_init 27 = .ok (.new 22, 3) := by decide +kernel
theorem dX2_init_30 : decode cX2_init 30 = .ok (.dup, 1) := by decide +kernel
theorem dX2_init_31 : decode cX2_init 31 = .ok (.iload_n 2, 1) := by decide +kernel
theorem dX2_init_32 : decode cX2_init 32 = .ok (.invokespecial 24, 3) := by decide +kernel
theorem dX2_init_35 : decode cX2_init 35 = .ok (.putfield 27, 3) := by decide +kernel
theorem dX2_init_38 : decode cX2_init 38 = .ok (.aload_n 0, 1) := by decide +kernel
theorem dX2_init_39 : decode cX2_init 39 = .ok (.new 22, 3) := by decide +kernel
theorem dX2_init_42 : decode cX2_init 42 = .ok (.dup, 1) := by decide +kernel
theorem dX2_init_43 : decode cX2_init 43 = .ok (.iload_n 2, 1) := by decide +kernel
theorem dX2_init_44 : decode cX2_init 44 = .ok (.invokespecial 24, 3) := by decide +kernel
theorem dX2_init_47 : decode cX2_init 47 = .ok (.putfield 31, 3) := by decide +kernel
theorem dX2_init_50 : decode cX2_init 50 = .ok (.aload_n 0, 1) := by decide +kernel
theorem dX2_init_51 : decode cX2_init 51 = .ok (.new 22, 3) := by decide +kernel
theorem dX2_init_54 : decode cX2_init 54 = .ok (.dup, 1) := by decide +kernel
theorem dX2_init_55 : decode cX2_init 55 = .ok (.bipush 20, 2) := by decide +kernel
theorem dX2_init_57 : decode cX2_init 57 = .ok (.invokespecial 24, 3) := by decide +kernel
theorem dX2_init_60 : decode cX2_init 60 = .ok (.putfield 34, 3) := by decide +kernel
theorem dX2_init_63 : decode cX2_init 63 = .ok (.aload_n 0, 1) := by decide +kernel
theorem dX2_init_64 : decode cX2_init 64 = .ok (.new 37, 3) := by decide +kernel
theorem dX2_init_67 : decode cX2_init 67 = .ok (.dup, 1) := by decide +kernel
theorem dX2_init_68 : decode cX2_init 68 = .ok (.iload_n 2, 1) := by decide +kernel
theorem dX2_init_69 : decode cX2_init 69 = .ok (.invokespecial 39, 3) := by decide +kernel
theorem dX2_init_72 : decode cX2_init 72 = .ok (.putfield 40, 3) := by decide +kernel
theorem dX2_init_75 : decode cX2_init 75 = .ok (.aload_n 0, 1) := by decide +kernel
theorem dX2_init_76 : decode cX2_init 76 = .ok (.iconst 0, 1) := by decide +kernel
theorem dX2_init_77 : decode cX2_init 77 = .ok (.putfield 44, 3) := by decide +kernel
theorem dX2_init_80 : decode cX2_init 80 = .ok (.aload_n 0, 1) := by decide +kernel
theorem dX2_init_81 : decode cX2_init 81 = .ok (.iconst 1, 1) := by decide +kernel
theorem dX2_init_82 : decode cX2_init 82 = .ok (.putfield 47, 3) := by decide +kernel
theorem dX2_init_85 : decode cX2_init 85 = .ok (.return_, 1) := by decide +kernel
set_option maxRecDepth 20000 in
theorem ggX2_add_X2_refuseWhenDown : GoodIn wsX2_add wsX2_refuseWhenDown := goodIn_ca (goodIn_r _ [11, 12, 13, 14, 21, 22, 23, 24, 25, 26, 27, 28, 29] (by decide +kernel) (by decide +kernel)) (goodIn_sub (fun _ h => List.mem_cons_of_mem _ (List.mem_append_right _ h)) (by decide +kernel))
set_option maxRecDepth 20000 in
theorem gX2_add_X2_refuseWhenDown : GoodIn wsX2_add (wsV RX2 58 RX2 yX2_refuseWhenDown wsX2_refuseWhenDown) := goodIn_app (goodIn_of _ (by decide +kernel)) ggX2_add_X2_refuseWhenDown
set_option maxRecDepth 20000 in
theorem ggX2_add_X0_set : GoodIn wsX2_add wsX0_set := goodIn_r _ [19, 20, 30] (by decide +kernel) (by decide +kernel)
set_option maxRecDepth 20000 in
theorem gX2_add_X0_set : GoodIn wsX2_add (wsV RX2 69 RX0 yX0_set wsX0_set) := goodIn_app (goodIn_of _ (by decide +kernel)) ggX2_add_X0_set
theorem dX2_add_0 : decode cX2_add 0 = .ok (.iload_n 1, 1) := by decide +kernel
theorem dX2_add_1 : decode cX2_add 1 = .ok (.ifCond .lt 10, 3) := by decide +kernel
theorem dX2_add_4 : decode cX2_add 4 = .ok (.iload_n 1, 1) := by decide +kernel
theorem dX2_add_5 : decode cX2_add 5 = .ok (.sipush 255, 3) := by decide +kernel
theorem dX2_add_8 : decode cX2_add 8 = .ok (.if_icmp .le 13, 3) := by decide +kernel
theorem dX2_add_11 : decode cX2_add 11 = .ok (.new 51, 3) := by decide +kernel
theorem dX2_add_14 : decode cX2_add 14 = .ok (.dup, 1) := by decide +kernel
theorem dX2_add_15 : decode cX2_add 15 = .ok (.ldc 53, 2) := by decide +kernel
theorem dX2_add_17 : decode cX2_add 17 = .ok (.invokespecial 55, 3) := by decide +kernel
theorem dX2_add_20 : decode cX2_add 20 = .ok (.athrow, 1) := by decide +kernel
theorem dX2_add_21 : decode cX2_add 21 = .ok (.aload_n 0, 1) := by decide +kernel
theorem dX2_add_22 : decode cX2_add 22 = .ok (.invokevirtual 58, 3) := by decide +kernel
theorem dX2_add_25 : decode cX2_add 25 = .ok (.aload_n 0, 1) := by decide +kernel
theorem dX2_add_26 : decode cX2_add 26 = .ok (.getfield 61, 3) := by decide +kernel
theorem dX2_add_29 : decode cX2_add 29 = .ok (.bipush 20, 2) := by decide +kernel
theorem dX2_add_31 : decode cX2_add 31 = .ok (.if_icmp .lt 13, 3) := by decide +kernel
theorem dX2_add_34 : decode cX2_add 34 = .ok (.new 64, 3) := by decide +kernel
theorem dX2_add_37 : decode cX2_add 37 = .ok (.dup, 1) := by decide +kernel
theorem dX2_add_38 : decode cX2_add 38 = .ok (.ldc 66, 2) := by decide +kernel
theorem dX2_add_40 : decode cX2_add 40 = .ok (.invokespecial 68, 3) := by decide +kernel
theorem dX2_add_43 : decode cX2_add 43 = .ok (.athrow, 1) := by decide +kernel
theorem dX2_add_44 : decode cX2_add 44 = .ok (.aload_n 0, 1) := by decide +kernel
theorem dX2_add_45 : decode cX2_add 45 = .ok (.getfield 34, 3) := by decide +kernel
theorem dX2_add_48 : decode cX2_add 48 = .ok (.aload_n 0, 1) := by decide +kernel
theorem dX2_add_49 : decode cX2_add 49 = .ok (.getfield 61, 3) := by decide +kernel
theorem dX2_add_52 : decode cX2_add 52 = .ok (.iload_n 1, 1) := by decide +kernel
theorem dX2_add_53 : decode cX2_add 53 = .ok (.invokevirtual 69, 3) := by decide +kernel
theorem dX2_add_56 : decode cX2_add 56 = .ok (.aload_n 0, 1) := by decide +kernel
theorem dX2_add_57 : decode cX2_add 57 = .ok (.dup, 1) := by decide +kernel
theorem dX2_add_58 : decode cX2_add 58 = .ok (.getfield 61, 3) := by decide +kernel
theorem dX2_add_61 : decode cX2_add 61 = .ok (.iconst 1, 1) := by decide +kernel
theorem dX2_add_62 : decode cX2_add 62 = .ok (.iadd, 1) := by decide +kernel
theorem dX2_add_63 : decode cX2_add 63 = .ok (.putfield 61, 3) := by decide +kernel
theorem dX2_add_66 : decode cX2_add 66 = .ok (.aload_n 0, 1) := by decide +kernel
theorem dX2_add_67 : decode cX2_add 67 = .ok (.getfield 61, 3) := by decide +kernel
theorem dX2_add_70 : decode cX2_add 70 = .ok (.ireturn, 1) := by decide +kernel
set_option maxRecDepth 20000 in
theorem ggX2_end_X2_refuseOtherKind : GoodIn wsX2_end wsX2_refuseOtherKind := goodIn_ca (goodIn_r _ [10, 1, 2, 11, 12, 9, 13] (by decide +kernel) (by decide +kernel)) (goodIn_sub (fun _ h => List.mem_cons_of_mem _ (List.mem_append_left _ (List.mem_append_left _ (List.mem_append_right _ h)))) (by decide +kernel))
set_option maxRecDepth 20000 in
theorem gX2_end_X2_refuseOtherKind : GoodIn wsX2_end (wsV RX2 75 RX2 yX2_refuseOtherKind wsX2_refuseOtherKind) := goodIn_app (goodIn_of _ (by decide +kernel)) ggX2_end_X2_refuseOtherKind
set_option maxRecDepth 20000 in
theorem ggX2_end_X2_refuseWhenDown : GoodIn wsX2_end wsX2_refuseWhenDown := goodIn_ca (goodIn_r _ [17, 18, 19, 20, 73, 74, 75, 76, 77, 78, 79, 80, 81] (by decide +kernel) (by decide +kernel)) (goodIn_sub (fun _ h => List.mem_cons_of_mem _ (List.mem_append_left _ (List.mem_append_right _ h))) (by decide +kernel))
set_option maxRecDepth 20000 in
theorem gX2_end_X2_refuseWhenDown : GoodIn wsX2_end (wsV RX2 58 RX2 yX2_refuseWhenDown wsX2_refuseWhenDown) := goodIn_app (goodIn_of _ (by decide +kernel)) ggX2_end_X2_refuseWhenDown
set_option maxRecDepth 20000 in
theorem ggX2_end_X2_refuseWhenFull : GoodIn wsX2_end wsX2_refuseWhenFull := goodIn_ca (goodIn_r _ [24, 25, 26, 4, 27, 28, 29, 30, 31, 32, 33, 73, 74, 75, 76, 77, 78, 79, 80, 81, 82, 83, 84, 85, 86, 87, 88, 89, 90] (by decide +kernel) (by decide +kernel)) (goodIn_sub (fun _ h => List.mem_cons_of_mem _ (List.mem_append_right _ h)) (by decide +kernel))
set_option maxRecDepth 20000 in
theorem gX2_end_X2_refuseWhenFull : GoodIn wsX2_end (wsV RX2 78 RX2 yX2_refuseWhenFull wsX2_refuseWhenFull) := goodIn_app (goodIn_of _ (by decide +kernel)) ggX2_end_X2_refuseWhenFull
set_option maxRecDepth 20000 in
theorem ggX2_end_X1_write : GoodIn wsX2_end wsX1_write := goodIn_r _ [38, 39, 40, 41, 42, 43, 44, 31, 45, 33, 46, 47, 48, 49, 50, 51, 52, 53, 54, 55, 9, 56, 57, 58, 59, 60, 61, 37, 62, 63, 64, 65, 66, 67, 68, 69, 70, 71, 72, 82, 83, 84, 85, 86, 87, 88, 89, 90] (by decide +kernel) (by decide +kernel)
set_option maxRecDepth 20000 in
theorem gX2_end_X1_write : GoodIn wsX2_end (wsV RX2 81 RX1 yX1_write wsX1_write) := goodIn_app (goodIn_of _ (by decide +kernel)) ggX2_end_X1_write
theorem dX2_end_0 : decode cX2_end 0 = .ok (.iload_n 1, 1) := by decide +kernel
theorem dX2_end_1 : decode cX2_end 1 = .ok (.iconst 5, 1) := by decide +kernel
theorem dX2_end_2 : decode cX2_end 2 = .ok (.if_icmp .ne 13, 3) := by decide +kernel
theorem dX2_end_5 : decode cX2_end 5 = .ok (.new 51, 3) := by decide +kernel
theorem dX2_end_8 : decode cX2_end 8 = .ok (.dup, 1) := by decide +kernel
theorem dX2_end_9 : decode cX2_end 9 = .ok (.ldc 73, 2) := by decide +kernel
theorem dX2_end_11 : decode cX2_end 11 = .ok (.invokespecial 55, 3) := by decide +kernel
theorem dX2_end_14 : decode cX2_end 14 = .ok (.athrow, 1) := by decide +kernel
theorem dX2_end_15 : decode cX2_end 15 = .ok (.aload_n 0, 1) := by decide +kernel
theorem dX2_end_16 : decode cX2_end 16 = .ok (.iload_n 1, 1) := by decide +kernel
theorem dX2_end_17 : decode cX2_end 17 = .ok (.invokevirtual 75, 3) := by decide +kernel
theorem dX2_end_20 : decode cX2_end 20 = .ok (.aload_n 0, 1) := by decide +kernel
theorem dX2_end_21 : decode cX2_end 21 = .ok (.invokevirtual 58, 3) := by decide +kernel
theorem dX2_end_24 : decode cX2_end 24 = .ok (.aload_n 0, 1) := by decide +kernel
theorem dX2_end_25 : decode cX2_end 25 = .ok (.aload_n 0, 1) := by decide +kernel
theorem dX2_end_26 : decode cX2_end 26 = .ok (.getfield 61, 3) := by decide +kernel
theorem dX2_end_29 : decode cX2_end 29 = .ok (.invokevirtual 78, 3) := by decide +kernel
theorem dX2_end_32 : decode cX2_end 32 = .ok (.aload_n 0, 1) := by decide +kernel
theorem dX2_end_33 : decode cX2_end 33 = .ok (.getfield 40, 3) := by decide +kernel
theorem dX2_end_36 : decode cX2_end 36 = .ok (.iload_n 1, 1) := by decide +kernel
theorem dX2_end_37 : decode cX2_end 37 = .ok (.aload_n 0, 1) := by decide +kernel
theorem dX2_end_38 : decode cX2_end 38 = .ok (.getfield 34, 3) := by decide +kernel
theorem dX2_end_41 : decode cX2_end 41 = .ok (.aload_n 0, 1) := by decide +kernel
theorem dX2_end_42 : decode cX2_end 42 = .ok (.getfield 61, 3) := by decide +kernel
end
section
theorem dX2_end_45 : decode cX2_end 45 = .ok (.invokevirtual 81, 3) := by decide +kernel
theorem dX2_end_48 : decode cX2_end 48 = .ok (.istore_n 2, 1) := by decide +kernel
theorem dX2_end_49 : decode cX2_end 49 = .ok (.aload_n 0, 1) := by decide +kernel
theorem dX2_end_50 : decode cX2_end 50 = .ok (.iconst 0, 1) := by decide +kernel
theorem dX2_end_51 : decode cX2_end 51 = .ok (.putfield 61, 3) := by decide +kernel
theorem dX2_end_54 : decode cX2_end 54 = .ok (.iload_n 2, 1) := by decide +kernel
theorem dX2_end_55 : decode cX2_end 55 = .ok (.ireturn, 1) := by decide +kernel
set_option maxRecDepth 20000 in
theorem ggX2_whole_X2_refuseWhenDown : GoodIn wsX2_whole wsX2_refuseWhenDown := goodIn_ca (goodIn_r _ [6, 7, 8, 9, 71, 72, 73, 74, 75, 76, 77, 78, 79] (by decide +kernel) (by decide +kernel)) (goodIn_sub (fun _ h => List.mem_cons_of_mem _ (List.mem_append_left _ (List.mem_append_right _ h))) (by decide +kernel))
set_option maxRecDepth 20000 in
theorem gX2_whole_X2_refuseWhenDown : GoodIn wsX2_whole (wsV RX2 58 RX2 yX2_refuseWhenDown wsX2_refuseWhenDown) := goodIn_app (goodIn_of _ (by decide +kernel)) ggX2_whole_X2_refuseWhenDown
set_option maxRecDepth 20000 in
theorem ggX2_whole_X2_refuseWhenFull : GoodIn wsX2_whole wsX2_refuseWhenFull := goodIn_ca (goodIn_r _ [13, 14, 15, 1, 16, 17, 18, 19, 20, 21, 22, 71, 72, 73, 74, 75, 76, 77, 78, 79, 80, 81, 82, 83, 84, 85, 86, 87, 88] (by decide +kernel) (by decide +kernel)) (goodIn_sub (fun _ h => List.mem_cons_of_mem _ (List.mem_append_right _ h)) (by decide +kernel))
set_option maxRecDepth 20000 in
theorem gX2_whole_X2_refuseWhenFull : GoodIn wsX2_whole (wsV RX2 78 RX2 yX2_refuseWhenFull wsX2_refuseWhenFull) := goodIn_app (goodIn_of _ (by decide +kernel)) ggX2_whole_X2_refuseWhenFull
set_option maxRecDepth 20000 in
theorem ggX2_whole_X1_writeState : GoodIn wsX2_whole wsX1_writeState := goodIn_r _ [27, 28, 29, 30, 31, 26, 32, 33, 34, 35, 36, 20, 37, 22, 38, 39, 40, 41, 42, 43, 44, 45, 46, 47, 48, 49, 50, 51, 52, 53, 54, 5, 55, 56, 57, 58, 59, 60, 61, 62, 63, 64, 65, 66, 67, 68, 69, 70, 80, 81, 82, 83, 84, 85, 86, 87, 88] (by decide +kernel) (by decide +kernel)
set_option maxRecDepth 20000 in
theorem gX2_whole_X1_writeState : GoodIn wsX2_whole (wsV RX2 85 RX1 yX1_writeState wsX1_writeState) := goodIn_app (goodIn_of _ (by decide +kernel)) ggX2_whole_X1_writeState
theorem dX2_whole_0 : decode cX2_whole 0 = .ok (.aload_n 0, 1) := by decide +kernel
theorem dX2_whole_1 : decode cX2_whole 1 = .ok (.invokevirtual 58, 3) := by decide +kernel
theorem dX2_whole_4 : decode cX2_whole 4 = .ok (.aload_n 0, 1) := by decide +kernel
theorem dX2_whole_5 : decode cX2_whole 5 = .ok (.bipush 8, 2) := by decide +kernel
theorem dX2_whole_7 : decode cX2_whole 7 = .ok (.invokevirtual 78, 3) := by decide +kernel
theorem dX2_whole_10 : decode cX2_whole 10 = .ok (.aload_n 0, 1) := by decide +kernel
theorem dX2_whole_11 : decode cX2_whole 11 = .ok (.getfield 40, 3) := by decide +kernel
theorem dX2_whole_14 : decode cX2_whole 14 = .ok (.invokevirtual 85, 3) := by decide +kernel
theorem dX2_whole_17 : decode cX2_whole 17 = .ok (.ireturn, 1) := by decide +kernel
set_option maxRecDepth 20000 in
theorem ggX2_sync_X2_refuseWhenDown : GoodIn wsX2_sync wsX2_refuseWhenDown := goodIn_ca (goodIn_r _ [7, 8, 9, 10, 34, 35, 36, 37, 38, 39, 40, 41, 42] (by decide +kernel) (by decide +kernel)) (goodIn_sub (fun _ h => List.mem_cons_of_mem _ (List.mem_append_right _ h)) (by decide +kernel))
set_option maxRecDepth 20000 in
theorem gX2_sync_X2_refuseWhenDown : GoodIn wsX2_sync (wsV RX2 58 RX2 yX2_refuseWhenDown wsX2_refuseWhenDown) := goodIn_app (goodIn_of _ (by decide +kernel)) ggX2_sync_X2_refuseWhenDown
set_option maxRecDepth 20000 in
theorem ggX2_sync_X0_copy : GoodIn wsX2_sync wsX0_copy := goodIn_r _ [15, 16, 17, 18, 14, 19, 20, 21, 22, 23, 24, 51] (by decide +kernel) (by decide +kernel)
set_option maxRecDepth 20000 in
theorem gX2_sync_X0_copy : GoodIn wsX2_sync (wsV RX2 101 RX0 yX0_copy wsX0_copy) := goodIn_app (goodIn_of _ (by decide +kernel)) ggX2_sync_X0_copy
set_option maxRecDepth 20000 in
theorem ggX2_sync_X1_markAllOnDisk : GoodIn wsX2_sync wsX1_markAllOnDisk := goodIn_r _ [29, 30, 31, 32, 33, 43, 44, 45, 46, 47, 48, 49, 50] (by decide +kernel) (by decide +kernel)
set_option maxRecDepth 20000 in
theorem gX2_sync_X1_markAllOnDisk : GoodIn wsX2_sync (wsV RX2 105 RX1 yX1_markAllOnDisk wsX1_markAllOnDisk) := goodIn_app (goodIn_of _ (by decide +kernel)) ggX2_sync_X1_markAllOnDisk
theorem dX2_sync_0 : decode cX2_sync 0 = .ok (.aload_n 0, 1) := by decide +kernel
theorem dX2_sync_1 : decode cX2_sync 1 = .ok (.invokevirtual 58, 3) := by decide +kernel
theorem dX2_sync_4 : decode cX2_sync 4 = .ok (.aload_n 0, 1) := by decide +kernel
theorem dX2_sync_5 : decode cX2_sync 5 = .ok (.getfield 40, 3) := by decide +kernel
theorem dX2_sync_8 : decode cX2_sync 8 = .ok (.getfield 89, 3) := by decide +kernel
theorem dX2_sync_11 : decode cX2_sync 11 = .ok (.istore_n 1, 1) := by decide +kernel
theorem dX2_sync_12 : decode cX2_sync 12 = .ok (.aload_n 0, 1) := by decide +kernel
theorem dX2_sync_13 : decode cX2_sync 13 = .ok (.getfield 27, 3) := by decide +kernel
theorem dX2_sync_16 : decode cX2_sync 16 = .ok (.aload_n 0, 1) := by decide +kernel
theorem dX2_sync_17 : decode cX2_sync 17 = .ok (.getfield 40, 3) := by decide +kernel
theorem dX2_sync_20 : decode cX2_sync 20 = .ok (.getfield 92, 3) := by decide +kernel
theorem dX2_sync_23 : decode cX2_sync 23 = .ok (.aload_n 0, 1) := by decide +kernel
theorem dX2_sync_24 : decode cX2_sync 24 = .ok (.getfield 40, 3) := by decide +kernel
theorem dX2_sync_27 : decode cX2_sync 27 = .ok (.getfield 95, 3) := by decide +kernel
theorem dX2_sync_30 : decode cX2_sync 30 = .ok (.aload_n 0, 1) := by decide +kernel
theorem dX2_sync_31 : decode cX2_sync 31 = .ok (.getfield 40, 3) := by decide +kernel
theorem dX2_sync_34 : decode cX2_sync 34 = .ok (.getfield 98, 3) := by decide +kernel
theorem dX2_sync_37 : decode cX2_sync 37 = .ok (.invokevirtual 101, 3) := by decide +kernel
theorem dX2_sync_40 : decode cX2_sync 40 = .ok (.aload_n 0, 1) := by decide +kernel
theorem dX2_sync_41 : decode cX2_sync 41 = .ok (.getfield 40, 3) := by decide +kernel
theorem dX2_sync_44 : decode cX2_sync 44 = .ok (.invokevirtual 105, 3) := by decide +kernel
theorem dX2_sync_47 : decode cX2_sync 47 = .ok (.aload_n 0, 1) := by decide +kernel
theorem dX2_sync_48 : decode cX2_sync 48 = .ok (.getfield 40, 3) := by decide +kernel
theorem dX2_sync_51 : decode cX2_sync 51 = .ok (.getfield 89, 3) := by decide +kernel
theorem dX2_sync_54 : decode cX2_sync 54 = .ok (.iload_n 1, 1) := by decide +kernel
theorem dX2_sync_55 : decode cX2_sync 55 = .ok (.isub, 1) := by decide +kernel
theorem dX2_sync_56 : decode cX2_sync 56 = .ok (.ireturn, 1) := by decide +kernel
set_option maxRecDepth 20000 in
theorem ggX2_cut_X1_bytesInMemory : GoodIn wsX2_cut wsX1_bytesInMemory := goodIn_r _ [11, 12, 13, 61, 62, 63, 64, 65, 66, 67, 68] (by decide +kernel) (by decide +kernel)
set_option maxRecDepth 20000 in
theorem gX2_cut_X1_bytesInMemory : GoodIn wsX2_cut (wsV RX2 108 RX1 yX1_bytesInMemory wsX1_bytesInMemory) := goodIn_app (goodIn_of _ (by decide +kernel)) ggX2_cut_X1_bytesInMemory
set_option maxRecDepth 20000 in
theorem ggX2_cut_X2_refuseWhenDown : GoodIn wsX2_cut wsX2_refuseWhenDown := goodIn_ca (goodIn_r _ [18, 19, 20, 6, 52, 53, 54, 55, 56, 57, 58, 59, 60] (by decide +kernel) (by decide +kernel)) (goodIn_sub (fun _ h => List.mem_cons_of_mem _ (List.mem_append_right _ h)) (by decide +kernel))
set_option maxRecDepth 20000 in
theorem gX2_cut_X2_refuseWhenDown : GoodIn wsX2_cut (wsV RX2 58 RX2 yX2_refuseWhenDown wsX2_refuseWhenDown) := goodIn_app (goodIn_of _ (by decide +kernel)) ggX2_cut_X2_refuseWhenDown
set_option maxRecDepth 20000 in
theorem ggX2_cut_X0_copy : GoodIn wsX2_cut wsX0_copy := goodIn_r _ [25, 26, 27, 28, 24, 29, 30, 31, 32, 33, 34, 69] (by decide +kernel) (by decide +kernel)
set_option maxRecDepth 20000 in
theorem gX2_cut_X0_copy : GoodIn wsX2_cut (wsV RX2 101 RX0 yX0_copy wsX0_copy) := goodIn_app (goodIn_of _ (by decide +kernel)) ggX2_cut_X0_copy
set_option maxRecDepth 20000 in
theorem ggX2_cut_X0_at : GoodIn wsX2_cut wsX0_at := goodIn_r _ [29, 30, 69] (by decide +kernel) (by decide +kernel)
set_option maxRecDepth 20000 in
theorem gX2_cut_X0_at : GoodIn wsX2_cut (wsV RX2 115 RX0 yX0_at wsX0_at) := goodIn_app (goodIn_of _ (by decide +kernel)) ggX2_cut_X0_at
set_option maxRecDepth 20000 in
theorem ggX2_cut_X0_set : GoodIn wsX2_cut wsX0_set := goodIn_r _ [34, 30, 69] (by decide +kernel) (by decide +kernel)
set_option maxRecDepth 20000 in
theorem gX2_cut_X0_set : GoodIn wsX2_cut (wsV RX2 69 RX0 yX0_set wsX0_set) := goodIn_app (goodIn_of _ (by decide +kernel)) ggX2_cut_X0_set
set_option maxRecDepth 20000 in
theorem ggX2_cut_X1_dropMemory : GoodIn wsX2_cut wsX1_dropMemory := goodIn_r _ [40, 41, 42, 43, 13, 12, 44, 45, 46, 10, 47, 48, 49, 50, 27, 28, 24, 29, 30, 51, 32, 33, 34, 61, 62, 63, 64, 65, 66, 67, 68, 69] (by decide +kernel) (by decide +kernel)
set_option maxRecDepth 20000 in
theorem gX2_cut_X1_dropMemory : GoodIn wsX2_cut (wsV RX2 119 RX1 yX1_dropMemory wsX1_dropMemory) := goodIn_app (goodIn_of _ (by decide +kernel)) ggX2_cut_X1_dropMemory
theorem dX2_cut_0 : decode cX2_cut 0 = .ok (.iload_n 1, 1) := by decide +kernel
theorem dX2_cut_1 : decode cX2_cut 1 = .ok (.ifCond .lt 14, 3) := by decide +kernel
theorem dX2_cut_4 : decode cX2_cut 4 = .ok (.iload_n 1, 1) := by decide +kernel
theorem dX2_cut_5 : decode cX2_cut 5 = .ok (.aload_n 0, 1) := by decide +kernel
theorem dX2_cut_6 : decode cX2_cut 6 = .ok (.getfield 40, 3) := by decide +kernel
theorem dX2_cut_9 : decode cX2_cut 9 = .ok (.invokevirtual 108, 3) := by decide +kernel
theorem dX2_cut_12 : decode cX2_cut 12 = .ok (.if_icmp .le 13, 3) := by decide +kernel
theorem dX2_cut_15 : decode cX2_cut 15 = .ok (.new 51, 3) := by decide +kernel
theorem dX2_cut_18 : decode cX2_cut 18 = .ok (.dup, 1) := by decide +kernel
theorem dX2_cut_19 : decode cX2_cut 19 = .ok (.ldc 111, 2) := by decide +kernel
theorem dX2_cut_21 : decode cX2_cut 21 = .ok (.invokespecial 55, 3) := by decide +kernel
theorem dX2_cut_24 : decode cX2_cut 24 = .ok (.athrow, 1) := by decide +kernel
theorem dX2_cut_25 : decode cX2_cut 25 = .ok (.iload_n 2, 1) := by decide +kernel
theorem dX2_cut_26 : decode cX2_cut 26 = .ok (.ifCond .lt 10, 3) := by decide +kernel
theorem dX2_cut_29 : decode cX2_cut 29 = .ok (.iload_n 2, 1) := by decide +kernel
theorem dX2_cut_30 : decode cX2_cut 30 = .ok (.sipush 255, 3) := by decide +kernel
theorem dX2_cut_33 : decode cX2_cut 33 = .ok (.if_icmp .le 13, 3) := by decide +kernel
theorem dX2_cut_36 : decode cX2_cut 36 = .ok (.new 51, 3) := by decide +kernel
theorem dX2_cut_39 : decode cX2_cut 39 = .ok (.dup, 1) := by decide +kernel
theorem dX2_cut_40 : decode cX2_cut 40 = .ok (.ldc 113, 2) := by decide +kernel
theorem dX2_cut_42 : decode cX2_cut 42 = .ok (.invokespecial 55, 3) := by decide +kernel
theorem dX2_cut_45 : decode cX2_cut 45 = .ok (.athrow, 1) := by decide +kernel
theorem dX2_cut_46 : decode cX2_cut 46 = .ok (.aload_n 0, 1) := by decide +kernel
theorem dX2_cut_47 : decode cX2_cut 47 = .ok (.invokevirtual 58, 3) := by decide +kernel
theorem dX2_cut_50 : decode cX2_cut 50 = .ok (.aload_n 0, 1) := by decide +kernel
theorem dX2_cut_51 : decode cX2_cut 51 = .ok (.getfield 40, 3) := by decide +kernel
theorem dX2_cut_54 : decode cX2_cut 54 = .ok (.getfield 95, 3) := by decide +kernel
theorem dX2_cut_57 : decode cX2_cut 57 = .ok (.iload_n 1, 1) := by decide +kernel
theorem dX2_cut_58 : decode cX2_cut 58 = .ok (.iadd, 1) := by decide +kernel
theorem dX2_cut_59 : decode cX2_cut 59 = .ok (.istore_n 3, 1) := by decide +kernel
theorem dX2_cut_60 : decode cX2_cut 60 = .ok (.aload_n 0, 1) := by decide +kernel
theorem dX2_cut_61 : decode cX2_cut 61 = .ok (.getfield 27, 3) := by decide +kernel
theorem dX2_cut_64 : decode cX2_cut 64 = .ok (.aload_n 0, 1) := by decide +kernel
theorem dX2_cut_65 : decode cX2_cut 65 = .ok (.getfield 40, 3) := by decide +kernel
theorem dX2_cut_68 : decode cX2_cut 68 = .ok (.getfield 92, 3) := by decide +kernel
theorem dX2_cut_71 : decode cX2_cut 71 = .ok (.aload_n 0, 1) := by decide +kernel
theorem dX2_cut_72 : decode cX2_cut 72 = .ok (.getfield 40, 3) := by decide +kernel
theorem dX2_cut_75 : decode cX2_cut 75 = .ok (.getfield 95, 3) := by decide +kernel
theorem dX2_cut_78 : decode cX2_cut 78 = .ok (.iload_n 3, 1) := by decide +kernel
theorem dX2_cut_79 : decode cX2_cut 79 = .ok (.invokevirtual 101, 3) := by decide +kernel
theorem dX2_cut_82 : decode cX2_cut 82 = .ok (.iload_n 2, 1) := by decide +kernel
theorem dX2_cut_83 : decode cX2_cut 83 = .ok (.ifCond .eq 35, 3) := by decide +kernel
theorem dX2_cut_86 : decode cX2_cut 86 = .ok (.iload_n 3, 1) := by decide +kernel
theorem dX2_cut_87 : decode cX2_cut 87 = .ok (.aload_n 0, 1) := by decide +kernel
theorem dX2_cut_88 : decode cX2_cut 88 = .ok (.getfield 40, 3) := by decide +kernel
theorem dX2_cut_91 : decode cX2_cut 91 = .ok (.getfield 98, 3) := by decide +kernel
theorem dX2_cut_94 : decode cX2_cut 94 = .ok (.if_icmp .ge 24, 3) := by decide +kernel
theorem dX2_cut_97 : decode cX2_cut 97 = .ok (.aload_n 0, 1) := by decide +kernel
theorem dX2_cut_98 : decode cX2_cut 98 = .ok (.getfield 27, 3) := by decide +kernel
theorem dX2_cut_101 : decode cX2_cut 101 = .ok (.iload_n 3, 1) := by decide +kernel
theorem dX2_cut_102 : decode cX2_cut 102 = .ok (.aload_n 0, 1) := by decide +kernel
theorem dX2_cut_103 : decode cX2_cut 103 = .ok (.getfield 40, 3) := by decide +kernel
theorem dX2_cut_106 : decode cX2_cut 106 = .ok (.getfield 92, 3) := by decide +kernel
theorem dX2_cut_109 : decode cX2_cut 109 = .ok (.iload_n 3, 1) := by decide +kernel
theorem dX2_cut_110 : decode cX2_cut 110 = .ok (.invokevirtual 115, 3) := by decide +kernel
theorem dX2_cut_113 : decode cX2_cut 113 = .ok (.iload_n 2, 1) := by decide +kernel
theorem dX2_cut_114 : decode cX2_cut 114 = .ok (.ixor, 1) := by decide +kernel
theorem dX2_cut_115 : decode cX2_cut 115 = .ok (.invokevirtual 69, 3) := by decide +kernel
theorem dX2_cut_118 : decode cX2_cut 118 = .ok (.aload_n 0, 1) := by decide +kernel
theorem dX2_cut_119 : decode cX2_cut 119 = .ok (.getfield 40, 3) := by decide +kernel
theorem dX2_cut_122 : decode cX2_cut 122 = .ok (.invokevirtual 119, 3) := by decide +kernel
theorem dX2_cut_125 : decode cX2_cut 125 = .ok (.aload_n 0, 1) := by decide +kernel
theorem dX2_cut_126 : decode cX2_cut 126 = .ok (.iconst 0, 1) := by decide +kernel
theorem dX2_cut_127 : decode cX2_cut 127 = .ok (.putfield 61, 3) := by decide +kernel
theorem dX2_cut_130 : decode cX2_cut 130 = .ok (.aload_n 0, 1) := by decide +kernel
theorem dX2_cut_131 : decode cX2_cut 131 = .ok (.iconst 0, 1) := by decide +kernel
theorem dX2_cut_132 : decode cX2_cut 132 = .ok (.putfield 47, 3) := by decide +kernel
theorem dX2_cut_135 : decode cX2_cut 135 = .ok (.return_, 1) := by decide +kernel
set_option maxRecDepth 20000 in
theorem ggX2_start_X2_readDisk : GoodIn wsX2_start wsX2_readDisk := goodIn_r _ [5, 6, 7, 8, 9, 10, 11, 12, 13, 14, 15, 16, 17, 18, 19, 20, 21, 22, 23, 24, 25, 26, 27, 28, 29, 30, 31, 32, 33, 34, 35, 36, 37, 38, 39, 40, 41, 42, 43, 44, 45, 46, 47, 48, 49, 50, 51, 52, 53, 54, 55, 56, 57, 58, 4, 59, 60, 61, 62, 63, 64, 65, 66, 67, 68, 69, 70, 71, 72, 73, 74, 75, 76, 77, 78, 79, 80, 81, 82, 83, 84, 85, 86, 87, 88, 89, 90, 91, 92, 93, 94, 95, 96, 97, 98, 99, 100, 101, 102, 103, 104, 105, 106] (by decide +kernel) (by decide +kernel)
set_option maxRecDepth 20000 in
theorem gX2_start_X2_readDisk : GoodIn wsX2_start (wsV RX2 122 RX2 yX2_readDisk wsX2_readDisk) := goodIn_app (goodIn_of _ (by decide +kernel)) ggX2_start_X2_readDisk
theorem dX2_start_0 : decode cX2_start 0 = .ok (.aload_n 0, 1) := by decide +kernel
theorem dX2_start_1 : decode cX2_start 1 = .ok (.invokevirtual 122, 3) := by decide +kernel
theorem dX2_start_4 : decode cX2_start 4 = .ok (.ireturn, 1) := by decide +kernel
set_option maxRecDepth 20000 in
theorem ggX2_poke_X2_placeOf : GoodIn wsX2_poke wsX2_placeOf := goodIn_r _ [8, 9, 10, 11, 12, 23, 24, 25, 26, 27, 28, 29, 30, 31, 32, 33, 34, 35, 36, 37] (by decide +kernel) (by decide +kernel)
set_option maxRecDepth 20000 in
theorem gX2_poke_X2_placeOf : GoodIn wsX2_poke (wsV RX2 127 RX2 yX2_placeOf wsX2_placeOf) := goodIn_app (goodIn_of _ (by decide +kernel)) ggX2_poke_X2_placeOf
set_option maxRecDepth 20000 in
theorem ggX2_poke_X0_at : GoodIn wsX2_poke wsX0_at := goodIn_r _ [17, 18, 38] (by decide +kernel) (by decide +kernel)
set_option maxRecDepth 20000 in
theorem gX2_poke_X0_at : GoodIn wsX2_poke (wsV RX2 115 RX0 yX0_at wsX0_at) := goodIn_app (goodIn_of _ (by decide +kernel)) ggX2_poke_X0_at
set_option maxRecDepth 20000 in
theorem ggX2_poke_X0_set : GoodIn wsX2_poke wsX0_set := goodIn_r _ [22, 18, 38] (by decide +kernel) (by decide +kernel)
set_option maxRecDepth 20000 in
theorem gX2_poke_X0_set : GoodIn wsX2_poke (wsV RX2 69 RX0 yX0_set wsX0_set) := goodIn_app (goodIn_of _ (by decide +kernel)) ggX2_poke_X0_set
theorem dX2_poke_0 : decode cX2_poke 0 = .ok (.iload_n 3, 1) := by decide +kernel
theorem dX2_poke_1 : decode cX2_poke 1 = .ok (.iconst 1, 1) := by decide +kernel
theorem dX2_poke_2 : decode cX2_poke 2 = .ok (.if_icmp .lt 10, 3) := by decide +kernel
theorem dX2_poke_5 : decode cX2_poke 5 = .ok (.iload_n 3, 1) := by decide +kernel
theorem dX2_poke_6 : decode cX2_poke 6 = .ok (.sipush 255, 3) := by decide +kernel
theorem dX2_poke_9 : decode cX2_poke 9 = .ok (.if_icmp .le 13, 3) := by decide +kernel
theorem dX2_poke_12 : decode cX2_poke 12 = .ok (.new 51, 3) := by decide +kernel
theorem dX2_poke_15 : decode cX2_poke 15 = .ok (.dup, 1) := by decide +kernel
theorem dX2_poke_16 : decode cX2_poke 16 = .ok (.ldc 125, 2) := by decide +kernel
theorem dX2_poke_18 : decode cX2_poke 18 = .ok (.invokespecial 55, 3) := by decide +kernel
theorem dX2_poke_21 : decode cX2_poke 21 = .ok (.athrow, 1) := by decide +kernel
theorem dX2_poke_22 : decode cX2_poke 22 = .ok (.aload_n 0, 1) := by decide +kernel
theorem dX2_poke_23 : decode cX2_poke 23 = .ok (.iload_n 1, 1) := by decide +kernel
theorem dX2_poke_24 : decode cX2_poke 24 = .ok (.iload_n 2, 1) := by decide +kernel
theorem dX2_poke_25 : decode cX2_poke 25 = .ok (.invokevirtual 127, 3) := by decide +kernel
theorem dX2_poke_28 : decode cX2_poke 28 = .ok (.istore 4, 2) := by decide +kernel
theorem dX2_poke_30 : decode cX2_poke 30 = .ok (.aload_n 0, 1) := by decide +kernel
theorem dX2_poke_31 : decode cX2_poke 31 = .ok (.getfield 27, 3) := by decide +kernel
theorem dX2_poke_34 : decode cX2_poke 34 = .ok (.iload 4, 2) := by decide +kernel
theorem dX2_poke_36 : decode cX2_poke 36 = .ok (.aload_n 0, 1) := by decide +kernel
theorem dX2_poke_37 : decode cX2_poke 37 = .ok (.getfield 27, 3) := by decide +kernel
theorem dX2_poke_40 : decode cX2_poke 40 = .ok (.iload 4, 2) := by decide +kernel
theorem dX2_poke_42 : decode cX2_poke 42 = .ok (.invokevirtual 115, 3) := by decide +kernel
theorem dX2_poke_45 : decode cX2_poke 45 = .ok (.iload_n 3, 1) := by decide +kernel
theorem dX2_poke_46 : decode cX2_poke 46 = .ok (.ixor, 1) := by decide +kernel
theorem dX2_poke_47 : decode cX2_poke 47 = .ok (.invokevirtual 69, 3) := by decide +kernel
theorem dX2_poke_50 : decode cX2_poke 50 = .ok (.aload_n 0, 1) := by decide +kernel
theorem dX2_poke_51 : decode cX2_poke 51 = .ok (.getfield 27, 3) := by decide +kernel
theorem dX2_poke_54 : decode cX2_poke 54 = .ok (.iload 4, 2) := by decide +kernel
theorem dX2_poke_56 : decode cX2_poke 56 = .ok (.invokevirtual 115, 3) := by decide +kernel
theorem dX2_poke_59 : decode cX2_poke 59 = .ok (.ireturn, 1) := by decide +kernel
set_option maxRecDepth 20000 in
theorem ggX2_byteOf_X2_placeOf : GoodIn wsX2_byteOf wsX2_placeOf := goodIn_r _ [6, 7, 8, 9, 10, 17, 18, 19, 20, 21, 22, 23, 24, 25, 26, 27, 28, 29, 30, 31] (by decide +kernel) (by decide +kernel)
set_option maxRecDepth 20000 in
theorem gX2_byteOf_X2_placeOf : GoodIn wsX2_byteOf (wsV RX2 127 RX2 yX2_placeOf wsX2_placeOf) := goodIn_app (goodIn_of _ (by decide +kernel)) ggX2_byteOf_X2_placeOf
set_option maxRecDepth 20000 in
theorem ggX2_byteOf_X0_at : GoodIn wsX2_byteOf wsX0_at := goodIn_r _ [15, 16, 32] (by decide +kernel) (by decide +kernel)
set_option maxRecDepth 20000 in
theorem gX2_byteOf_X0_at : GoodIn wsX2_byteOf (wsV RX2 115 RX0 yX0_at wsX0_at) := goodIn_app (goodIn_of _ (by decide +kernel)) ggX2_byteOf_X0_at
theorem dX2_byteOf_0 : decode cX2_byteOf 0 = .ok (.aload_n 0, 1) := by decide +kernel
theorem dX2_byteOf_1 : decode cX2_byteOf 1 = .ok (.getfield 27, 3) := by decide +kernel
theorem dX2_byteOf_4 : decode cX2_byteOf 4 = .ok (.aload_n 0, 1) := by decide +kernel
theorem dX2_byteOf_5 : decode cX2_byteOf 5 = .ok (.iload_n 1, 1) := by decide +kernel
theorem dX2_byteOf_6 : decode cX2_byteOf 6 = .ok (.iload_n 2, 1) := by decide +kernel
theorem dX2_byteOf_7 : decode cX2_byteOf 7 = .ok (.invokevirtual 127, 3) := by decide +kernel
theorem dX2_byteOf_10 : decode cX2_byteOf 10 = .ok (.invokevirtual 115, 3) := by decide +kernel
theorem dX2_byteOf_13 : decode cX2_byteOf 13 = .ok (.ireturn, 1) := by decide +kernel
set_option maxRecDepth 20000 in
theorem ggX2_row_X1_has : GoodIn wsX2_row wsX1_has := goodIn_r _ [10, 11, 46, 47, 48, 49, 50, 51, 52, 53] (by decide +kernel) (by decide +kernel)
set_option maxRecDepth 20000 in
theorem gX2_row_X1_has : GoodIn wsX2_row (wsV RX2 130 RX1 yX1_has wsX1_has) := goodIn_app (goodIn_of _ (by decide +kernel)) ggX2_row_X1_has
set_option maxRecDepth 20000 in
theorem ggX2_row_X2_byteOfRow : GoodIn wsX2_row wsX2_byteOfRow := goodIn_ca (goodIn_r _ [16, 1, 2, 5, 17, 18, 19, 9, 20, 21, 22, 23, 24, 25, 26, 27, 28, 29, 30, 31, 32, 37, 38, 39, 40, 41, 42, 43, 44, 45, 46, 47, 48, 49, 50, 51, 52, 53, 54] (by decide +kernel) (by decide +kernel)) (goodIn_sub (fun _ h => List.mem_cons_of_mem _ (List.mem_append_left _ (List.mem_append_right _ h))) (by decide +kernel))
set_option maxRecDepth 20000 in
theorem gX2_row_X2_byteOfRow : GoodIn wsX2_row (wsV RX2 139 RX2 yX2_byteOfRow wsX2_byteOfRow) := goodIn_app (goodIn_of _ (by decide +kernel)) ggX2_row_X2_byteOfRow
set_option maxRecDepth 20000 in
theorem ggX2_row_X1_kindOf : GoodIn wsX2_row wsX1_kindOf := goodIn_r _ [36, 21, 22, 23, 24, 25, 26, 27, 28, 46, 47, 48, 49, 50, 51, 52, 53, 54] (by decide +kernel) (by decide +kernel)
set_option maxRecDepth 20000 in
theorem gX2_row_X1_kindOf : GoodIn wsX2_row (wsV RX2 142 RX1 yX1_kindOf wsX1_kindOf) := goodIn_app (goodIn_of _ (by decide +kernel)) ggX2_row_X1_kindOf
set_option maxRecDepth 20000 in
theorem ggX2_row_X1_lengthOf : GoodIn wsX2_row wsX1_lengthOf := goodIn_r _ [20, 21, 22, 23, 24, 25, 26, 27, 28, 46, 47, 48, 49, 50, 51, 52, 53, 54] (by decide +kernel) (by decide +kernel)
set_option maxRecDepth 20000 in
theorem gX2_row_X1_lengthOf : GoodIn wsX2_row (wsV RX2 145 RX1 yX1_lengthOf wsX1_lengthOf) := goodIn_app (goodIn_of _ (by decide +kernel)) ggX2_row_X1_lengthOf
theorem dX2_row_0 : decode cX2_row 0 = .ok (.aload_n 0, 1) := by decide +kernel
theorem dX2_row_1 : decode cX2_row 1 = .ok (.getfield 40, 3) := by decide +kernel
theorem dX2_row_4 : decode cX2_row 4 = .ok (.iload_n 1, 1) := by decide +kernel
theorem dX2_row_5 : decode cX2_row 5 = .ok (.invokevirtual 130, 3) := by decide +kernel
theorem dX2_row_8 : decode cX2_row 8 = .ok (.ifCond .ne 13, 3) := by decide +kernel
theorem dX2_row_11 : decode cX2_row 11 = .ok (.new 134, 3) := by decide +kernel
theorem dX2_row_14 : decode cX2_row 14 = .ok (.dup, 1) := by decide +kernel
theorem dX2_row_15 : decode cX2_row 15 = .ok (.ldc 136, 2) := by decide +kernel
theorem dX2_row_17 : decode cX2_row 17 = .ok (.invokespecial 138, 3) := by decide +kernel
theorem dX2_row_20 : decode cX2_row 20 = .ok (.athrow, 1) := by decide +kernel
theorem dX2_row_21 : decode cX2_row 21 = .ok (.iload_n 2, 1) := by decide +kernel
theorem dX2_row_22 : decode cX2_row 22 = .ok (.bipush 10, 2) := by decide +kernel
theorem dX2_row_24 : decode cX2_row 24 = .ok (.if_icmp .lt 13, 3) := by decide +kernel
theorem dX2_row_27 : decode cX2_row 27 = .ok (.aload_n 0, 1) := by decide +kernel
theorem dX2_row_28 : decode cX2_row 28 = .ok (.iload_n 1, 1) := by decide +kernel
theorem dX2_row_29 : decode cX2_row 29 = .ok (.iload_n 2, 1) := by decide +kernel
theorem dX2_row_30 : decode cX2_row 30 = .ok (.bipush 10, 2) := by decide +kernel
theorem dX2_row_32 : decode cX2_row 32 = .ok (.isub, 1) := by decide +kernel
theorem dX2_row_33 : decode cX2_row 33 = .ok (.invokevirtual 139, 3) := by decide +kernel
theorem dX2_row_36 : decode cX2_row 36 = .ok (.ireturn, 1) := by decide +kernel
theorem dX2_row_37 : decode cX2_row 37 = .ok (.iload_n 2, 1) := by decide +kernel
theorem dX2_row_38 : decode cX2_row 38 = .ok (.tableswitch 61 0 2 #[26, 35, 44], 26) := by decide +kernel
theorem dX2_row_64 : decode cX2_row 64 = .ok (.aload_n 0, 1) := by decide +kernel
theorem dX2_row_65 : decode cX2_row 65 = .ok (.getfield 40, 3) := by decide +kernel
theorem dX2_row_68 : decode cX2_row 68 = .ok (.iload_n 1, 1) := by decide +kernel
theorem dX2_row_69 : decode cX2_row 69 = .ok (.invokevirtual 142, 3) := by decide +kernel
theorem dX2_row_72 : decode cX2_row 72 = .ok (.ireturn, 1) := by decide +kernel
theorem dX2_row_73 : decode cX2_row 73 = .ok (.aload_n 0, 1) := by decide +kernel
theorem dX2_row_74 : decode cX2_row 74 = .ok (.getfield 40, 3) := by decide +kernel
theorem dX2_row_77 : decode cX2_row 77 = .ok (.iload_n 1, 1) := by decide +kernel
theorem dX2_row_78 : decode cX2_row 78 = .ok (.invokevirtual 145, 3) := by decide +kernel
theorem dX2_row_81 : decode cX2_row 81 = .ok (.ireturn, 1) := by decide +kernel
theorem dX2_row_82 : decode cX2_row 82 = .ok (.iload_n 1, 1) := by decide +kernel
theorem dX2_row_83 : decode cX2_row 83 = .ok (.aload_n 0, 1) := by decide +kernel
theorem dX2_row_84 : decode cX2_row 84 = .ok (.getfield 40, 3) := by decide +kernel
theorem dX2_row_87 : decode cX2_row 87 = .ok (.getfield 89, 3) := by decide +kernel
theorem dX2_row_90 : decode cX2_row 90 = .ok (.if_icmp .gt 7, 3) := by decide +kernel
theorem dX2_row_93 : decode cX2_row 93 = .ok (.iconst 1, 1) := by decide +kernel
theorem dX2_row_94 : decode cX2_row 94 = .ok (.goto 4, 3) := by decide +kernel
theorem dX2_row_97 : decode cX2_row 97 = .ok (.iconst 0, 1) := by decide +kernel
theorem dX2_row_98 : decode cX2_row 98 = .ok (.ireturn, 1) := by decide +kernel
theorem dX2_row_99 : decode cX2_row 99 = .ok (.new 51, 3) := by decide +kernel
theorem dX2_row_102 : decode cX2_row 102 = .ok (.dup, 1) := by decide +kernel
theorem dX2_row_103 : decode cX2_row 103 = .ok (.ldc 148, 2) := by decide +kernel
theorem dX2_row_105 : decode cX2_row 105 = .ok (.invokespecial 55, 3) := by decide +kernel
theorem dX2_row_108 : decode cX2_row 108 = .ok (.athrow, 1) := by decide +kernel
set_option maxRecDepth 20000 in
theorem ggX2_find_X2_refuseOtherKind : GoodIn wsX2_find wsX2_refuseOtherKind := goodIn_ca (goodIn_r _ [8, 1, 2, 9, 10, 7, 11] (by decide +kernel) (by decide +kernel)) (goodIn_sub (fun _ h => List.mem_cons_of_mem _ (List.mem_append_right _ h)) (by decide +kernel))
set_option maxRecDepth 20000 in
theorem gX2_find_X2_refuseOtherKind : GoodIn wsX2_find (wsV RX2 75 RX2 yX2_refuseOtherKind wsX2_refuseOtherKind) := goodIn_app (goodIn_of _ (by decide +kernel)) ggX2_find_X2_refuseOtherKind
set_option maxRecDepth 20000 in
theorem ggX2_find_X1_numberOf : GoodIn wsX2_find wsX1_numberOf := goodIn_r _ [16, 17, 18, 19, 20, 15, 21, 22, 23, 24, 25, 26, 27, 28, 29, 39, 40, 41, 42, 43, 44, 45, 46, 47] (by decide +kernel) (by decide +kernel)
set_option maxRecDepth 20000 in
theorem gX2_find_X1_numberOf : GoodIn wsX2_find (wsV RX2 152 RX1 yX1_numberOf wsX1_numberOf) := goodIn_app (goodIn_of _ (by decide +kernel)) ggX2_find_X1_numberOf
theorem dX2_find_0 : decode cX2_find 0 = .ok (.aload_n 0, 1) := by decide +kernel
theorem dX2_find_1 : decode cX2_find 1 = .ok (.iload_n 1, 1) := by decide +kernel
theorem dX2_find_2 : decode cX2_find 2 = .ok (.invokevirtual 75, 3) := by decide +kernel
theorem dX2_find_5 : decode cX2_find 5 = .ok (.iload_n 2, 1) := by decide +kernel
theorem dX2_find_6 : decode cX2_find 6 = .ok (.ifCond .ge 13, 3) := by decide +kernel
theorem dX2_find_9 : decode cX2_find 9 = .ok (.new 51, 3) := by decide +kernel
theorem dX2_find_12 : decode cX2_find 12 = .ok (.dup, 1) := by decide +kernel
theorem dX2_find_13 : decode cX2_find 13 = .ok (.ldc 150, 2) := by decide +kernel
theorem dX2_find_15 : decode cX2_find 15 = .ok (.invokespecial 55, 3) := by decide +kernel
theorem dX2_find_18 : decode cX2_find 18 = .ok (.athrow, 1) := by decide +kernel
theorem dX2_find_19 : decode cX2_find 19 = .ok (.aload_n 0, 1) := by decide +kernel
theorem dX2_find_20 : decode cX2_find 20 = .ok (.getfield 40, 3) := by decide +kernel
theorem dX2_find_23 : decode cX2_find 23 = .ok (.iload_n 1, 1) := by decide +kernel
theorem dX2_find_24 : decode cX2_find 24 = .ok (.iload_n 2, 1) := by decide +kernel
theorem dX2_find_25 : decode cX2_find 25 = .ok (.invokevirtual 152, 3) := by decide +kernel
theorem dX2_find_28 : decode cX2_find 28 = .ok (.ireturn, 1) := by decide +kernel
theorem dX2_wrong_0 : decode cX2_wrong 0 = .ok (.aload_n 0, 1) := by decide +kernel
theorem dX2_wrong_1 : decode cX2_wrong 1 = .ok (.getfield 44, 3) := by decide +kernel
theorem dX2_wrong_4 : decode cX2_wrong 4 = .ok (.ireturn, 1) := by decide +kernel
set_option maxRecDepth 20000 in
theorem ggX2_backup_X2_refuseWhenDown : GoodIn wsX2_backup wsX2_refuseWhenDown := goodIn_ca (goodIn_r _ [9, 10, 11, 12, 31, 32, 33, 34, 35, 36, 37, 38, 39] (by decide +kernel) (by decide +kernel)) (goodIn_sub (fun _ h => List.mem_cons_of_mem _ (List.mem_append_right _ h)) (by decide +kernel))
set_option maxRecDepth 20000 in
theorem gX2_backup_X2_refuseWhenDown : GoodIn wsX2_backup (wsV RX2 58 RX2 yX2_refuseWhenDown wsX2_refuseWhenDown) := goodIn_app (goodIn_of _ (by decide +kernel)) ggX2_backup_X2_refuseWhenDown
set_option maxRecDepth 20000 in
theorem ggX2_backup_X0_length : GoodIn wsX2_backup wsX0_length := goodIn_r _ [17, 18, 48] (by decide +kernel) (by decide +kernel)
set_option maxRecDepth 20000 in
theorem gX2_backup_X0_length : GoodIn wsX2_backup (wsV RX2 155 RX0 yX0_length wsX0_length) := goodIn_app (goodIn_of _ (by decide +kernel)) ggX2_backup_X0_length
set_option maxRecDepth 20000 in
theorem ggX2_backup_X0_copy : GoodIn wsX2_backup wsX0_copy := goodIn_r _ [22, 23, 24, 25, 16, 26, 18, 27, 28, 29, 30, 48] (by decide +kernel) (by decide +kernel)
set_option maxRecDepth 20000 in
theorem gX2_backup_X0_copy : GoodIn wsX2_backup (wsV RX2 101 RX0 yX0_copy wsX0_copy) := goodIn_app (goodIn_of _ (by decide +kernel)) ggX2_backup_X0_copy
theorem dX2_backup_0 : decode cX2_backup 0 = .ok (.aload_n 0, 1) := by decide +kernel
theorem dX2_backup_1 : decode cX2_backup 1 = .ok (.invokevirtual 58, 3) := by decide +kernel
theorem dX2_backup_4 : decode cX2_backup 4 = .ok (.aload_n 0, 1) := by decide +kernel
theorem dX2_backup_5 : decode cX2_backup 5 = .ok (.getfield 31, 3) := by decide +kernel
theorem dX2_backup_8 : decode cX2_backup 8 = .ok (.aload_n 0, 1) := by decide +kernel
theorem dX2_backup_9 : decode cX2_backup 9 = .ok (.getfield 27, 3) := by decide +kernel
theorem dX2_backup_12 : decode cX2_backup 12 = .ok (.iconst 0, 1) := by decide +kernel
theorem dX2_backup_13 : decode cX2_backup 13 = .ok (.aload_n 0, 1) := by decide +kernel
theorem dX2_backup_14 : decode cX2_backup 14 = .ok (.getfield 27, 3) := by decide +kernel
theorem dX2_backup_17 : decode cX2_backup 17 = .ok (.invokevirtual 155, 3) := by decide +kernel
theorem dX2_backup_20 : decode cX2_backup 20 = .ok (.invokevirtual 101, 3) := by decide +kernel
theorem dX2_backup_23 : decode cX2_backup 23 = .ok (.aload_n 0, 1) := by decide +kernel
theorem dX2_backup_24 : decode cX2_backup 24 = .ok (.iconst 1, 1) := by decide +kernel
theorem dX2_backup_25 : decode cX2_backup 25 = .ok (.putfield 158, 3) := by decide +kernel
theorem dX2_backup_28 : decode cX2_backup 28 = .ok (.aload_n 0, 1) := by decide +kernel
theorem dX2_backup_29 : decode cX2_backup 29 = .ok (.getfield 40, 3) := by decide +kernel
theorem dX2_backup_32 : decode cX2_backup 32 = .ok (.getfield 89, 3) := by decide +kernel
theorem dX2_backup_35 : decode cX2_backup 35 = .ok (.ireturn, 1) := by decide +kernel
set_option maxRecDepth 20000 in
theorem ggX2_restore_X0_length : GoodIn wsX2_restore wsX0_length := goodIn_r _ [10, 11, 104] (by decide +kernel) (by decide +kernel)
set_option maxRecDepth 20000 in
theorem gX2_restore_X0_length : GoodIn wsX2_restore (wsV RX2 155 RX0 yX0_length wsX0_length) := goodIn_app (goodIn_of _ (by decide +kernel)) ggX2_restore_X0_length
set_option maxRecDepth 20000 in
theorem ggX2_restore_X0_copy : GoodIn wsX2_restore wsX0_copy := goodIn_r _ [15, 16, 17, 18, 9, 19, 11, 20, 21, 22, 23, 104] (by decide +kernel) (by decide +kernel)
set_option maxRecDepth 20000 in
theorem gX2_restore_X0_copy : GoodIn wsX2_restore (wsV RX2 101 RX0 yX0_copy wsX0_copy) := goodIn_app (goodIn_of _ (by decide +kernel)) ggX2_restore_X0_copy
set_option maxRecDepth 20000 in
theorem ggX2_restore_X2_readDisk : GoodIn wsX2_restore wsX2_readDisk := goodIn_r _ [28, 29, 30, 4, 31, 32, 33, 34, 35, 36, 37, 38, 39, 40, 41, 42, 43, 44, 45, 46, 47, 48, 49, 50, 51, 52, 53, 17, 18, 9, 19, 11, 54, 21, 22, 23, 55, 56, 57, 58, 59, 60, 61, 62, 63, 64, 65, 66, 16, 67, 7, 8, 10, 68, 27, 69, 70, 71, 72, 73, 74, 75, 76, 77, 78, 79, 80, 81, 82, 13, 14, 15, 20, 83, 84, 85, 86, 87, 88, 89, 90, 91, 92, 93, 94, 95, 96, 97, 98, 99, 100, 101, 102, 103, 105, 106, 107, 108, 109, 110, 111, 112, 104] (by decide +kernel) (by decide +kernel)
set_option maxRecDepth 20000 in
theorem gX2_restore_X2_readDisk : GoodIn wsX2_restore (wsV RX2 122 RX2 yX2_readDisk wsX2_readDisk) := goodIn_app (goodIn_of _ (by decide +kernel)) ggX2_restore_X2_readDisk
theorem dX2_restore_0 : decode cX2_restore 0 = .ok (.aload_n 0, 1) := by decide +kernel
theorem dX2_restore_1 : decode cX2_restore 1 = .ok (.getfield 158, 3) := by decide +kernel
theorem dX2_restore_4 : decode cX2_restore 4 = .ok (.ifCond .ne 13, 3) := by decide +kernel
theorem dX2_restore_7 : decode cX2_restore 7 = .ok (.new 161, 3) := by decide +kernel
theorem dX2_restore_10 : decode cX2_restore 10 = .ok (.dup, 1) := by decide +kernel
theorem dX2_restore_11 : decode cX2_restore 11 = .ok (.ldc 163, 2) := by decide +kernel
theorem dX2_restore_13 : decode cX2_restore 13 = .ok (.invokespecial 165, 3) := by decide +kernel
theorem dX2_restore_16 : decode cX2_restore 16 = .ok (.athrow, 1) := by decide +kernel
theorem dX2_restore_17 : decode cX2_restore 17 = .ok (.aload_n 0, 1) := by decide +kernel
theorem dX2_restore_18 : decode cX2_restore 18 = .ok (.getfield 27, 3) := by decide +kernel
theorem dX2_restore_21 : decode cX2_restore 21 = .ok (.aload_n 0, 1) := by decide +kernel
theorem dX2_restore_22 : decode cX2_restore 22 = .ok (.getfield 31, 3) := by decide +kernel
theorem dX2_restore_25 : decode cX2_restore 25 = .ok (.iconst 0, 1) := by decide +kernel
theorem dX2_restore_26 : decode cX2_restore 26 = .ok (.aload_n 0, 1) := by decide +kernel
theorem dX2_restore_27 : decode cX2_restore 27 = .ok (.getfield 31, 3) := by decide +kernel
theorem dX2_restore_30 : decode cX2_restore 30 = .ok (.invokevirtual 155, 3) := by decide +kernel
theorem dX2_restore_33 : decode cX2_restore 33 = .ok (.invokevirtual 101, 3) := by decide +kernel
theorem dX2_restore_36 : decode cX2_restore 36 = .ok (.aload_n 0, 1) := by decide +kernel
theorem dX2_restore_37 : decode cX2_restore 37 = .ok (.invokevirtual 122, 3) := by decide +kernel
theorem dX2_restore_40 : decode cX2_restore 40 = .ok (.ireturn, 1) := by decide +kernel
set_option maxRecDepth 20000 in
theorem ggX2_total_X2_refuseOtherKind : GoodIn wsX2_total wsX2_refuseOtherKind := goodIn_ca (goodIn_r _ [13, 14, 15, 16, 17, 12, 18] (by decide +kernel) (by decide +kernel)) (goodIn_sub (fun _ h => List.mem_cons_of_mem _ (List.mem_append_right _ h)) (by decide +kernel))
set_option maxRecDepth 20000 in
theorem gX2_total_X2_refuseOtherKind : GoodIn wsX2_total (wsV RX2 75 RX2 yX2_refuseOtherKind wsX2_refuseOtherKind) := goodIn_app (goodIn_of _ (by decide +kernel)) ggX2_total_X2_refuseOtherKind
set_option maxRecDepth 20000 in
theorem ggX2_total_X1_kindOf : GoodIn wsX2_total wsX1_kindOf := goodIn_r _ [23, 24, 25, 26, 27, 28, 29, 30, 31, 53, 54, 55, 56, 57, 58, 59, 60, 61] (by decide +kernel) (by decide +kernel)
set_option maxRecDepth 20000 in
theorem gX2_total_X1_kindOf : GoodIn wsX2_total (wsV RX2 142 RX1 yX1_kindOf wsX1_kindOf) := goodIn_app (goodIn_of _ (by decide +kernel)) ggX2_total_X1_kindOf
set_option maxRecDepth 20000 in
theorem ggX2_total_X1_sumOfBytes : GoodIn wsX2_total wsX1_sumOfBytes := goodIn_r _ [35, 36, 37, 38, 22, 39, 24, 25, 26, 27, 28, 29, 30, 31, 40, 41, 42, 43, 53, 54, 55, 56, 57, 58, 59, 60, 61] (by decide +kernel) (by decide +kernel)
set_option maxRecDepth 20000 in
theorem gX2_total_X1_sumOfBytes : GoodIn wsX2_total (wsV RX2 169 RX1 yX1_sumOfBytes wsX1_sumOfBytes) := goodIn_app (goodIn_of _ (by decide +kernel)) ggX2_total_X1_sumOfBytes
theorem dX2_total_0 : decode cX2_total 0 = .ok (.aload_n 0, 1) := by decide +kernel
theorem dX2_total_1 : decode cX2_total 1 = .ok (.iload_n 1, 1) := by decide +kernel
theorem dX2_total_2 : decode cX2_total 2 = .ok (.invokevirtual 75, 3) := by decide +kernel
theorem dX2_total_5 : decode cX2_total 5 = .ok (.iconst 1, 1) := by decide +kernel
theorem dX2_total_6 : decode cX2_total 6 = .ok (.iload_n 2, 1) := by decide +kernel
theorem dX2_total_7 : decode cX2_total 7 = .ok (.invokestatic 15, 3) := by decide +kernel
theorem dX2_total_10 : decode cX2_total 10 = .ok (.istore 4, 2) := by decide +kernel
theorem dX2_total_12 : decode cX2_total 12 = .ok (.aload_n 0, 1) := by decide +kernel
theorem dX2_total_13 : decode cX2_total 13 = .ok (.getfield 40, 3) := by decide +kernel
theorem dX2_total_16 : decode cX2_total 16 = .ok (.getfield 166, 3) := by decide +kernel
theorem dX2_total_19 : decode cX2_total 19 = .ok (.iload_n 3, 1) := by decide +kernel
theorem dX2_total_20 : decode cX2_total 20 = .ok (.invokestatic 9, 3) := by decide +kernel
theorem dX2_total_23 : decode cX2_total 23 = .ok (.istore 5, 2) := by decide +kernel
theorem dX2_total_25 : decode cX2_total 25 = .ok (.iconst 0, 1) := by decide +kernel
theorem dX2_total_26 : decode cX2_total 26 = .ok (.istore 6, 2) := by decide +kernel
theorem dX2_total_28 : decode cX2_total 28 = .ok (.iload 4, 2) := by decide +kernel
theorem dX2_total_30 : decode cX2_total 30 = .ok (.istore 7, 2) := by decide +kernel
theorem dX2_total_32 : decode cX2_total 32 = .ok (.iload 7, 2) := by decide +kernel
theorem dX2_total_34 : decode cX2_total 34 = .ok (.iload 5, 2) := by decide +kernel
theorem dX2_total_36 : decode cX2_total 36 = .ok (.if_icmp .gt 36, 3) := by decide +kernel
theorem dX2_total_39 : decode cX2_total 39 = .ok (.aload_n 0, 1) := by decide +kernel
theorem dX2_total_40 : decode cX2_total 40 = .ok (.getfield 40, 3) := by decide +kernel
theorem dX2_total_43 : decode cX2_total 43 = .ok (.iload 7, 2) := by decide +kernel
theorem dX2_total_45 : decode cX2_total 45 = .ok (.invokevirtual 142, 3) := by decide +kernel
theorem dX2_total_48 : decode cX2_total 48 = .ok (.iload_n 1, 1) := by decide +kernel
theorem dX2_total_49 : decode cX2_total 49 = .ok (.if_icmp .ne 17, 3) := by decide +kernel
theorem dX2_total_52 : decode cX2_total 52 = .ok (.iload 6, 2) := by decide +kernel
theorem dX2_total_54 : decode cX2_total 54 = .ok (.aload_n 0, 1) := by decide +kernel
theorem dX2_total_55 : decode cX2_total 55 = .ok (.getfield 40, 3) := by decide +kernel
theorem dX2_total_58 : decode cX2_total 58 = .ok (.iload 7, 2) := by decide +kernel
theorem dX2_total_60 : decode cX2_total 60 = .ok (.invokevirtual 169, 3) := by decide +kernel
theorem dX2_total_63 : decode cX2_total 63 = .ok (.iadd, 1) := by decide +kernel
theorem dX2_total_64 : decode cX2_total 64 = .ok (.istore 6, 2) := by decide +kernel
theorem dX2_total_66 : decode cX2_total 66 = .ok (.iinc 7 1, 3) := by decide +kernel
theorem dX2_total_69 : decode cX2_total 69 = .ok (.goto (-37), 3) := by decide +kernel
theorem dX2_total_72 : decode cX2_total 72 = .ok (.iload 6, 2) := by decide +kernel
theorem dX2_total_74 : decode cX2_total 74 = .ok (.ireturn, 1) := by decide +kernel
set_option maxRecDepth 20000 in
theorem ggX2_count_X1_bytesInMemory : GoodIn wsX2_count wsX1_bytesInMemory := goodIn_r _ [9, 10, 11, 27, 28, 29, 30, 31, 32, 33, 34] (by decide +kernel) (by decide +kernel)
set_option maxRecDepth 20000 in
theorem gX2_count_X1_bytesInMemory : GoodIn wsX2_count (wsV RX2 108 RX1 yX1_bytesInMemory wsX1_bytesInMemory) := goodIn_app (goodIn_of _ (by decide +kernel)) ggX2_count_X1_bytesInMemory
set_option maxRecDepth 20000 in
theorem ggX2_count_X0_at : GoodIn wsX2_count wsX0_at := goodIn_r _ [16, 17, 35] (by decide +kernel) (by decide +kernel)
set_option maxRecDepth 20000 in
theorem gX2_count_X0_at : GoodIn wsX2_count (wsV RX2 115 RX0 yX0_at wsX0_at) := goodIn_app (goodIn_of _ (by decide +kernel)) ggX2_count_X0_at
theorem dX2_count_0 : decode cX2_count 0 = .ok (.iload_n 1, 1) := by decide +kernel
theorem dX2_count_1 : decode cX2_count 1 = .ok (.tableswitch 114 0 7 #[47, 52, 60, 68, 76, 81, 94, 102], 47) := by decide +kernel
theorem dX2_count_48 : decode cX2_count 48 = .ok (.aload_n 0, 1) := by decide +kernel
theorem dX2_count_49 : decode cX2_count 49 = .ok (.getfield 18, 3) := by decide +kernel
theorem dX2_count_52 : decode cX2_count 52 = .ok (.ireturn, 1) := by decide +kernel
theorem dX2_count_53 : decode cX2_count 53 = .ok (.aload_n 0, 1) := by decide +kernel
theorem dX2_count_54 : decode cX2_count 54 = .ok (.getfield 40, 3) := by decide +kernel
theorem dX2_count_57 : decode cX2_count 57 = .ok (.getfield 166, 3) := by decide +kernel
theorem dX2_count_60 : decode cX2_count 60 = .ok (.ireturn, 1) := by decide +kernel
theorem dX2_count_61 : decode cX2_count 61 = .ok (.aload_n 0, 1) := by decide +kernel
theorem dX2_count_62 : decode cX2_count 62 = .ok (.getfield 40, 3) := by decide +kernel
theorem dX2_count_65 : decode cX2_count 65 = .ok (.getfield 89, 3) := by decide +kernel
theorem dX2_count_68 : decode cX2_count 68 = .ok (.ireturn, 1) := by decide +kernel
theorem dX2_count_69 : decode cX2_count 69 = .ok (.aload_n 0, 1) := by decide +kernel
theorem dX2_count_70 : decode cX2_count 70 = .ok (.getfield 40, 3) := by decide +kernel
theorem dX2_count_73 : decode cX2_count 73 = .ok (.invokevirtual 108, 3) := by decide +kernel
theorem dX2_count_76 : decode cX2_count 76 = .ok (.ireturn, 1) := by decide +kernel
theorem dX2_count_77 : decode cX2_count 77 = .ok (.aload_n 0, 1) := by decide +kernel
theorem dX2_count_78 : decode cX2_count 78 = .ok (.getfield 61, 3) := by decide +kernel
theorem dX2_count_81 : decode cX2_count 81 = .ok (.ireturn, 1) := by decide +kernel
theorem dX2_count_82 : decode cX2_count 82 = .ok (.aload_n 0, 1) := by decide +kernel
theorem dX2_count_83 : decode cX2_count 83 = .ok (.getfield 47, 3) := by decide +kernel
theorem dX2_count_86 : decode cX2_count 86 = .ok (.ifCond .eq 7, 3) := by decide +kernel
theorem dX2_count_89 : decode cX2_count 89 = .ok (.iconst 1, 1) := by decide +kernel
theorem dX2_count_90 : decode cX2_count 90 = .ok (.goto 4, 3) := by decide +kernel
theorem dX2_count_93 : decode cX2_count 93 = .ok (.iconst 0, 1) := by decide +kernel
theorem dX2_count_94 : decode cX2_count 94 = .ok (.ireturn, 1) := by decide +kernel
theorem dX2_count_95 : decode cX2_count 95 = .ok (.aload_n 0, 1) := by decide +kernel
theorem dX2_count_96 : decode cX2_count 96 = .ok (.getfield 40, 3) := by decide +kernel
theorem dX2_count_99 : decode cX2_count 99 = .ok (.getfield 98, 3) := by decide +kernel
theorem dX2_count_102 : decode cX2_count 102 = .ok (.ireturn, 1) := by decide +kernel
theorem dX2_count_103 : decode cX2_count 103 = .ok (.aload_n 0, 1) := by decide +kernel
theorem dX2_count_104 : decode cX2_count 104 = .ok (.getfield 40, 3) := by decide +kernel
theorem dX2_count_107 : decode cX2_count 107 = .ok (.getfield 172, 3) := by decide +kernel
theorem dX2_count_110 : decode cX2_count 110 = .ok (.iconst 5, 1) := by decide +kernel
theorem dX2_count_111 : decode cX2_count 111 = .ok (.invokevirtual 115, 3) := by decide +kernel
theorem dX2_count_114 : decode cX2_count 114 = .ok (.ireturn, 1) := by decide +kernel
theorem dX2_count_115 : decode cX2_count 115 = .ok (.iconst (-1), 1) := by decide +kernel
theorem dX2_count_116 : decode cX2_count 116 = .ok (.ireturn, 1) := by decide +kernel
set_option maxRecDepth 20000 in
theorem ggX2_refuseOtherKind_X2_isKind : GoodIn wsX2_refuseOtherKind wsX2_isKind := goodIn_r _ [6] (by decide +kernel) (by decide +kernel)
set_option maxRecDepth 20000 in
theorem gX2_refuseOtherKind_X2_isKind : GoodIn wsX2_refuseOtherKind (va_wsS RX2 175 yX2_isKind wsX2_isKind) := goodIn_app (goodIn_of _ (by decide +kernel)) ggX2_refuseOtherKind_X2_isKind
theorem dX2_refuseOtherKind_0 : decode cX2_refuseOtherKind 0 = .ok (.iload_n 1, 1) := by decide +kernel
theorem dX2_refuseOtherKind_1 : decode cX2_refuseOtherKind 1 = .ok (.invokestatic 175, 3) := by decide +kernel
theorem dX2_refuseOtherKind_4 : decode cX2_refuseOtherKind 4 = .ok (.ifCond .ne 13, 3) := by decide +kernel
theorem dX2_refuseOtherKind_7 : decode cX2_refuseOtherKind 7 = .ok (.new 51, 3) := by decide +kernel
theorem dX2_refuseOtherKind_10 : decode cX2_refuseOtherKind 10 = .ok (.dup, 1) := by decide +kernel
theorem dX2_refuseOtherKind_11 : decode cX2_refuseOtherKind 11 = .ok (.ldc 178, 2) := by decide +kernel
theorem dX2_refuseOtherKind_13 : decode cX2_refuseOtherKind 13 = .ok (.invokespecial 55, 3) := by decide +kernel
theorem dX2_refuseOtherKind_16 : decode cX2_refuseOtherKind 16 = .ok (.athrow, 1) := by decide +kernel
theorem dX2_refuseOtherKind_17 : decode cX2_refuseOtherKind 17 = .ok (.return_, 1) := by decide +kernel
theorem dX2_refuseWhenDown_0 : decode cX2_refuseWhenDown 0 = .ok (.aload_n 0, 1) := by decide +kernel
theorem dX2_refuseWhenDown_1 : decode cX2_refuseWhenDown 1 = .ok (.getfield 47, 3) := by decide +kernel
theorem dX2_refuseWhenDown_4 : decode cX2_refuseWhenDown 4 = .ok (.ifCond .ne 13, 3) := by decide +kernel
theorem dX2_refuseWhenDown_7 : decode cX2_refuseWhenDown 7 = .ok (.new 161, 3) := by decide +kernel
theorem dX2_refuseWhenDown_10 : decode cX2_refuseWhenDown 10 = .ok (.dup, 1) := by decide +kernel
theorem dX2_refuseWhenDown_11 : decode cX2_refuseWhenDown 11 = .ok (.ldc 180, 2) := by decide +kernel
theorem dX2_refuseWhenDown_13 : decode cX2_refuseWhenDown 13 = .ok (.invokespecial 165, 3) := by decide +kernel
theorem dX2_refuseWhenDown_16 : decode cX2_refuseWhenDown 16 = .ok (.athrow, 1) := by decide +kernel
theorem dX2_refuseWhenDown_17 : decode cX2_refuseWhenDown 17 = .ok (.return_, 1) := by decide +kernel
set_option maxRecDepth 20000 in
theorem ggX2_refuseWhenFull_X0_length : GoodIn wsX2_refuseWhenFull wsX0_length := goodIn_r _ [9, 10, 28] (by decide +kernel) (by decide +kernel)
set_option maxRecDepth 20000 in
theorem gX2_refuseWhenFull_X0_length : GoodIn wsX2_refuseWhenFull (wsV RX2 155 RX0 yX0_length wsX0_length) := goodIn_app (goodIn_of _ (by decide +kernel)) ggX2_refuseWhenFull_X0_length
theorem dX2_refuseWhenFull_0 : decode cX2_refuseWhenFull 0 = .ok (.aload_n 0, 1) := by decide +kernel
theorem dX2_refuseWhenFull_1 : decode cX2_refuseWhenFull 1 = .ok (.getfield 40, 3) := by decide +kernel
theorem dX2_refuseWhenFull_4 : decode cX2_refuseWhenFull 4 = .ok (.getfield 98, 3) := by decide +kernel
theorem dX2_refuseWhenFull_7 : decode cX2_refuseWhenFull 7 = .ok (.bipush 9, 2) := by decide +kernel
theorem dX2_refuseWhenFull_9 : decode cX2_refuseWhenFull 9 = .ok (.iadd, 1) := by decide +kernel
theorem dX2_refuseWhenFull_10 : decode cX2_refuseWhenFull 10 = .ok (.iload_n 1, 1) := by decide +kernel
theorem dX2_refuseWhenFull_11 : decode cX2_refuseWhenFull 11 = .ok (.iadd, 1) := by decide +kernel
theorem dX2_refuseWhenFull_12 : decode cX2_refuseWhenFull 12 = .ok (.aload_n 0, 1) := by decide +kernel
theorem dX2_refuseWhenFull_13 : decode cX2_refuseWhenFull 13 = .ok (.getfield 27, 3) := by decide +kernel
theorem dX2_refuseWhenFull_16 : decode cX2_refuseWhenFull 16 = .ok (.invokevirtual 155, 3) := by decide +kernel
theorem dX2_refuseWhenFull_19 : decode cX2_refuseWhenFull 19 = .ok (.if_icmp .le 13, 3) := by decide +kernel
theorem dX2_refuseWhenFull_22 : decode cX2_refuseWhenFull 22 = .ok (.new 64, 3) := by decide +kernel
theorem dX2_refuseWhenFull_25 : decode cX2_refuseWhenFull 25 = .ok (.dup, 1) := by decide +kernel
theorem dX2_refuseWhenFull_26 : decode cX2_refuseWhenFull 26 = .ok (.ldc 182, 2) := by decide +kernel
theorem dX2_refuseWhenFull_28 : decode cX2_refuseWhenFull 28 = .ok (.invokespecial 68, 3) := by decide +kernel
theorem dX2_refuseWhenFull_31 : decode cX2_refuseWhenFull 31 = .ok (.athrow, 1) := by decide +kernel
theorem dX2_refuseWhenFull_32 : decode cX2_refuseWhenFull 32 = .ok (.return_, 1) := by decide +kernel
theorem dX2_placeOf_0 : decode cX2_placeOf 0 = .ok (.iload_n 1, 1) := by decide +kernel
theorem dX2_placeOf_1 : decode cX2_placeOf 1 = .ok (.ifCond .lt 21, 3) := by decide +kernel
theorem dX2_placeOf_4 : decode cX2_placeOf 4 = .ok (.iload_n 1, 1) := by decide +kernel
theorem dX2_placeOf_5 : decode cX2_placeOf 5 = .ok (.aload_n 0, 1) := by decide +kernel
theorem dX2_placeOf_6 : decode cX2_placeOf 6 = .ok (.getfield 18, 3) := by decide +kernel
theorem dX2_placeOf_9 : decode cX2_placeOf 9 = .ok (.if_icmp .ge 13, 3) := by decide +kernel
theorem dX2_placeOf_12 : decode cX2_placeOf 12 = .ok (.iload_n 2, 1) := by decide +kernel
theorem dX2_placeOf_13 : decode cX2_placeOf 13 = .ok (.ifCond .lt 9, 3) := by decide +kernel
theorem dX2_placeOf_16 : decode cX2_placeOf 16 = .ok (.iload_n 2, 1) := by decide +kernel
theorem dX2_placeOf_17 : decode cX2_placeOf 17 = .ok (.bipush 32, 2) := by decide +kernel
theorem dX2_placeOf_19 : decode cX2_placeOf 19 = .ok (.if_icmp .lt 13, 3) := by decide +kernel
theorem dX2_placeOf_22 : decode cX2_placeOf 22 = .ok (.new 184, 3) := by decide +kernel
theorem dX2_placeOf_25 : decode cX2_placeOf 25 = .ok (.dup, 1) := by decide +kernel
theorem dX2_placeOf_26 : decode cX2_placeOf 26 = .ok (.ldc 186, 2) := by decide +kernel
theorem dX2_placeOf_28 : decode cX2_placeOf 28 = .ok (.invokespecial 188, 3) := by decide +kernel
theorem dX2_placeOf_31 : decode cX2_placeOf 31 = .ok (.athrow, 1) := by decide +kernel
theorem dX2_placeOf_32 : decode cX2_placeOf 32 = .ok (.iload_n 1, 1) := by decide +kernel
theorem dX2_placeOf_33 : decode cX2_placeOf 33 = .ok (.bipush 32, 2) := by decide +kernel
theorem dX2_placeOf_35 : decode cX2_placeOf 35 = .ok (.imul, 1) := by decide +kernel
theorem dX2_placeOf_36 : decode cX2_placeOf 36 = .ok (.iload_n 2, 1) := by decide +kernel
theorem dX2_placeOf_37 : decode cX2_placeOf 37 = .ok (.iadd, 1) := by decide +kernel
theorem dX2_placeOf_38 : decode cX2_placeOf 38 = .ok (.ireturn, 1) := by decide +kernel
set_option maxRecDepth 20000 in
theorem ggX2_byteOfRow_X1_lengthOf : GoodIn wsX2_byteOfRow wsX1_lengthOf := goodIn_r _ [8, 9, 10, 11, 12, 13, 14, 15, 16, 30, 31, 32, 33, 34, 35, 36, 37, 38] (by decide +kernel) (by decide +kernel)
set_option maxRecDepth 20000 in
theorem gX2_byteOfRow_X1_lengthOf : GoodIn wsX2_byteOfRow (wsV RX2 145 RX1 yX1_lengthOf wsX1_lengthOf) := goodIn_app (goodIn_of _ (by decide +kernel)) ggX2_byteOfRow_X1_lengthOf
set_option maxRecDepth 20000 in
theorem ggX2_byteOfRow_X1_byteAt : GoodIn wsX2_byteOfRow wsX1_byteAt := goodIn_r _ [20, 9, 10, 11, 12, 13, 14, 15, 16, 30, 31, 32, 33, 34, 35, 36, 37, 38] (by decide +kernel) (by decide +kernel)
set_option maxRecDepth 20000 in
theorem gX2_byteOfRow_X1_byteAt : GoodIn wsX2_byteOfRow (wsV RX2 191 RX1 yX1_byteAt wsX1_byteAt) := goodIn_app (goodIn_of _ (by decide +kernel)) ggX2_byteOfRow_X1_byteAt
theorem dX2_byteOfRow_0 : decode cX2_byteOfRow 0 = .ok (.iload_n 2, 1) := by decide +kernel
theorem dX2_byteOfRow_1 : decode cX2_byteOfRow 1 = .ok (.aload_n 0, 1) := by decide +kernel
theorem dX2_byteOfRow_2 : decode cX2_byteOfRow 2 = .ok (.getfield 40, 3) := by decide +kernel
theorem dX2_byteOfRow_5 : decode cX2_byteOfRow 5 = .ok (.iload_n 1, 1) := by decide +kernel
theorem dX2_byteOfRow_6 : decode cX2_byteOfRow 6 = .ok (.invokevirtual 145, 3) := by decide +kernel
theorem dX2_byteOfRow_9 : decode cX2_byteOfRow 9 = .ok (.if_icmp .lt 13, 3) := by decide +kernel
theorem dX2_byteOfRow_12 : decode cX2_byteOfRow 12 = .ok (.new 134, 3) := by decide +kernel
theorem dX2_byteOfRow_15 : decode cX2_byteOfRow 15 = .ok (.dup, 1) := by decide +kernel
theorem dX2_byteOfRow_16 : decode cX2_byteOfRow 16 = .ok (.ldc 189, 2) := by decide +kernel
theorem dX2_byteOfRow_18 : decode cX2_byteOfRow 18 = .ok (.invokespecial 138, 3) := by decide +kernel
theorem dX2_byteOfRow_21 : decode cX2_byteOfRow 21 = .ok (.athrow, 1) := by decide +kernel
theorem dX2_byteOfRow_22 : decode cX2_byteOfRow 22 = .ok (.aload_n 0, 1) := by decide +kernel
theorem dX2_byteOfRow_23 : decode cX2_byteOfRow 23 = .ok (.getfield 40, 3) := by decide +kernel
theorem dX2_byteOfRow_26 : decode cX2_byteOfRow 26 = .ok (.iload_n 1, 1) := by decide +kernel
theorem dX2_byteOfRow_27 : decode cX2_byteOfRow 27 = .ok (.iload_n 2, 1) := by decide +kernel
theorem dX2_byteOfRow_28 : decode cX2_byteOfRow 28 = .ok (.invokevirtual 191, 3) := by decide +kernel
theorem dX2_byteOfRow_31 : decode cX2_byteOfRow 31 = .ok (.ireturn, 1) := by decide +kernel
set_option maxRecDepth 20000 in
theorem ggX2_readDisk_X1_clear : GoodIn wsX2_readDisk wsX1_clear := goodIn_r _ [10, 11, 12, 13, 14, 15, 9, 16, 17, 18, 19, 20, 21, 22, 23, 24, 25, 26, 27, 28, 29, 30, 31, 32, 33, 34, 35, 94, 95, 96, 97, 98, 99, 100, 101, 102] (by decide +kernel) (by decide +kernel)
set_option maxRecDepth 20000 in
theorem gX2_readDisk_X1_clear : GoodIn wsX2_readDisk (wsV RX2 194 RX1 yX1_clear wsX1_clear) := goodIn_app (goodIn_of _ (by decide +kernel)) ggX2_readDisk_X1_clear
set_option maxRecDepth 20000 in
theorem ggX2_readDisk_X1_read : GoodIn wsX2_readDisk wsX1_read := goodIn_r _ [39, 19, 24, 40, 41, 42, 9, 43, 17, 44, 45, 46, 29, 47, 31, 48, 27, 28, 30, 26, 49, 50, 51, 52, 53, 54, 55, 56, 57, 58, 59, 60, 61, 62, 63, 64, 65, 66, 67, 18, 68, 69, 70, 71, 72, 33, 34, 35, 73, 74, 75, 76, 25, 32, 20, 21, 22, 23, 77, 78, 79, 80, 94, 95, 96, 97, 98, 99, 100, 101, 102] (by decide +kernel) (by decide +kernel)
set_option maxRecDepth 20000 in
theorem gX2_readDisk_X1_read : GoodIn wsX2_readDisk (wsV RX2 197 RX1 yX1_read wsX1_read) := goodIn_app (goodIn_of _ (by decide +kernel)) ggX2_readDisk_X1_read
set_option maxRecDepth 20000 in
theorem ggX2_readDisk_X1_markAllOnDisk : GoodIn wsX2_readDisk wsX1_markAllOnDisk := goodIn_r _ [84, 17, 11, 19, 12, 94, 95, 96, 97, 98, 99, 100, 101] (by decide +kernel) (by decide +kernel)
set_option maxRecDepth 20000 in
theorem gX2_readDisk_X1_markAllOnDisk : GoodIn wsX2_readDisk (wsV RX2 105 RX1 yX1_markAllOnDisk wsX1_markAllOnDisk) := goodIn_app (goodIn_of _ (by decide +kernel)) ggX2_readDisk_X1_markAllOnDisk
theorem dX2_readDisk_0 : decode cX2_readDisk 0 = .ok (.aload_n 0, 1) := by decide +kernel
theorem dX2_readDisk_1 : decode cX2_readDisk 1 = .ok (.iconst 0, 1) := by decide +kernel
theorem dX2_readDisk_2 : decode cX2_readDisk 2 = .ok (.putfield 61, 3) := by decide +kernel
theorem dX2_readDisk_5 : decode cX2_readDisk 5 = .ok (.aload_n 0, 1) := by decide +kernel
theorem dX2_readDisk_6 : decode cX2_readDisk 6 = .ok (.getfield 40, 3) := by decide +kernel
theorem dX2_readDisk_9 : decode cX2_readDisk 9 = .ok (.invokevirtual 194, 3) := by decide +kernel
theorem dX2_readDisk_12 : decode cX2_readDisk 12 = .ok (.aload_n 0, 1) := by decide +kernel
theorem dX2_readDisk_13 : decode cX2_readDisk 13 = .ok (.aload_n 0, 1) := by decide +kernel
theorem dX2_readDisk_14 : decode cX2_readDisk 14 = .ok (.getfield 40, 3) := by decide +kernel
theorem dX2_readDisk_17 : decode cX2_readDisk 17 = .ok (.aload_n 0, 1) := by decide +kernel
theorem dX2_readDisk_18 : decode cX2_readDisk 18 = .ok (.getfield 27, 3) := by decide +kernel
theorem dX2_readDisk_21 : decode cX2_readDisk 21 = .ok (.invokevirtual 197, 3) := by decide +kernel
theorem dX2_readDisk_24 : decode cX2_readDisk 24 = .ok (.putfield 44, 3) := by decide +kernel
theorem dX2_readDisk_27 : decode cX2_readDisk 27 = .ok (.aload_n 0, 1) := by decide +kernel
theorem dX2_readDisk_28 : decode cX2_readDisk 28 = .ok (.getfield 40, 3) := by decide +kernel
theorem dX2_readDisk_31 : decode cX2_readDisk 31 = .ok (.invokevirtual 105, 3) := by decide +kernel
theorem dX2_readDisk_34 : decode cX2_readDisk 34 = .ok (.aload_n 0, 1) := by decide +kernel
theorem dX2_readDisk_35 : decode cX2_readDisk 35 = .ok (.iconst 1, 1) := by decide +kernel
theorem dX2_readDisk_36 : decode cX2_readDisk 36 = .ok (.putfield 47, 3) := by decide +kernel
theorem dX2_readDisk_39 : decode cX2_readDisk 39 = .ok (.aload_n 0, 1) := by decide +kernel
theorem dX2_readDisk_40 : decode cX2_readDisk 40 = .ok (.getfield 40, 3) := by decide +kernel
theorem dX2_readDisk_43 : decode cX2_readDisk 43 = .ok (.getfield 166, 3) := by decide +kernel
theorem dX2_readDisk_46 : decode cX2_readDisk 46 = .ok (.ireturn, 1) := by decide +kernel
theorem dX2_isKind_0 : decode cX2_isKind 0 = .ok (.iload_n 0, 1) := by decide +kernel
theorem dX2_isKind_1 : decode cX2_isKind 1 = .ok (.iconst 1, 1) := by decide +kernel
theorem dX2_isKind_2 : decode cX2_isKind 2 = .ok (.if_icmp .lt 12, 3) := by decide +kernel
theorem dX2_isKind_5 : decode cX2_isKind 5 = .ok (.iload_n 0, 1) := by decide +kernel
theorem dX2_isKind_6 : decode cX2_isKind 6 = .ok (.iconst 5, 1) := by decide +kernel
theorem dX2_isKind_7 : decode cX2_isKind 7 = .ok (.if_icmp .gt 7, 3) := by decide +kernel
theorem dX2_isKind_10 : decode cX2_isKind 10 = .ok (.iconst 1, 1) := by decide +kernel
theorem dX2_isKind_11 : decode cX2_isKind 11 = .ok (.goto 4, 3) := by decide +kernel
theorem dX2_isKind_14 : decode cX2_isKind 14 = .ok (.iconst 0, 1) := by decide +kernel
theorem dX2_isKind_15 : decode cX2_isKind 15 = .ok (.ireturn, 1) := by decide +kernel
set_option maxRecDepth 20000 in
theorem ggX2_sumOfRow_X0_at : GoodIn wsX2_sumOfRow wsX0_at := goodIn_r _ [6, 7, 8] (by decide +kernel) (by decide +kernel)
set_option maxRecDepth 20000 in
theorem gX2_sumOfRow_X0_at : GoodIn wsX2_sumOfRow (wsV RX2 115 RX0 yX0_at wsX0_at) := goodIn_app (goodIn_of _ (by decide +kernel)) ggX2_sumOfRow_X0_at
theorem dX2_sumOfRow_0 : decode cX2_sumOfRow 0 = .ok (.iconst 1, 1) := by decide +kernel
theorem dX2_sumOfRow_1 : decode cX2_sumOfRow 1 = .ok (.istore_n 3, 1) := by decide +kernel
theorem dX2_sumOfRow_2 : decode cX2_sumOfRow 2 = .ok (.iload_n 1, 1) := by decide +kernel
theorem dX2_sumOfRow_3 : decode cX2_sumOfRow 3 = .ok (.iconst 5, 1) := by decide +kernel
theorem dX2_sumOfRow_4 : decode cX2_sumOfRow 4 = .ok (.iadd, 1) := by decide +kernel
theorem dX2_sumOfRow_5 : decode cX2_sumOfRow 5 = .ok (.iload_n 2, 1) := by decide +kernel
theorem dX2_sumOfRow_6 : decode cX2_sumOfRow 6 = .ok (.iadd, 1) := by decide +kernel
theorem dX2_sumOfRow_7 : decode cX2_sumOfRow 7 = .ok (.istore 4, 2) := by decide +kernel
theorem dX2_sumOfRow_9 : decode cX2_sumOfRow 9 = .ok (.iload_n 1, 1) := by decide +kernel
theorem dX2_sumOfRow_10 : decode cX2_sumOfRow 10 = .ok (.iconst 1, 1) := by decide +kernel
theorem dX2_sumOfRow_11 : decode cX2_sumOfRow 11 = .ok (.iadd, 1) := by decide +kernel
theorem dX2_sumOfRow_12 : decode cX2_sumOfRow 12 = .ok (.istore 5, 2) := by decide +kernel
theorem dX2_sumOfRow_14 : decode cX2_sumOfRow 14 = .ok (.iload 5, 2) := by decide +kernel
theorem dX2_sumOfRow_16 : decode cX2_sumOfRow 16 = .ok (.iload 4, 2) := by decide +kernel
theorem dX2_sumOfRow_18 : decode cX2_sumOfRow 18 = .ok (.if_icmp .ge 34, 3) := by decide +kernel
theorem dX2_sumOfRow_21 : decode cX2_sumOfRow 21 = .ok (.iload_n 3, 1) := by decide +kernel
theorem dX2_sumOfRow_22 : decode cX2_sumOfRow 22 = .ok (.aload_n 0, 1) := by decide +kernel
theorem dX2_sumOfRow_23 : decode cX2_sumOfRow 23 = .ok (.iload 5, 2) := by decide +kernel
theorem dX2_sumOfRow_25 : decode cX2_sumOfRow 25 = .ok (.invokevirtual 115, 3) := by decide +kernel
theorem dX2_sumOfRow_28 : decode cX2_sumOfRow 28 = .ok (.ixor, 1) := by decide +kernel
theorem dX2_sumOfRow_29 : decode cX2_sumOfRow 29 = .ok (.istore 6, 2) := by decide +kernel
theorem dX2_sumOfRow_31 : decode cX2_sumOfRow 31 = .ok (.iload 6, 2) := by decide +kernel
theorem dX2_sumOfRow_33 : decode cX2_sumOfRow 33 = .ok (.bipush 7, 2) := by decide +kernel
theorem dX2_sumOfRow_35 : decode cX2_sumOfRow 35 = .ok (.ishl, 1) := by decide +kernel
theorem dX2_sumOfRow_36 : decode cX2_sumOfRow 36 = .ok (.iload 6, 2) := by decide +kernel
theorem dX2_sumOfRow_38 : decode cX2_sumOfRow 38 = .ok (.bipush 25, 2) := by decide +kernel
theorem dX2_sumOfRow_40 : decode cX2_sumOfRow 40 = .ok (.iushr, 1) := by decide +kernel
theorem dX2_sumOfRow_41 : decode cX2_sumOfRow 41 = .ok (.ior, 1) := by decide +kernel
theorem dX2_sumOfRow_42 : decode cX2_sumOfRow 42 = .ok (.ldc 201, 2) := by decide +kernel
theorem dX2_sumOfRow_44 : decode cX2_sumOfRow 44 = .ok (.imul, 1) := by decide +kernel
theorem dX2_sumOfRow_45 : decode cX2_sumOfRow 45 = .ok (.istore_n 3, 1) := by decide +kernel
theorem dX2_sumOfRow_46 : decode cX2_sumOfRow 46 = .ok (.iinc 5 1, 3) := by decide +kernel
theorem dX2_sumOfRow_49 : decode cX2_sumOfRow 49 = .ok (.goto (-35), 3) := by decide +kernel
theorem dX2_sumOfRow_52 : decode cX2_sumOfRow 52 = .ok (.iload_n 3, 1) := by decide +kernel
theorem dX2_sumOfRow_53 : decode cX2_sumOfRow 53 = .ok (.ireturn, 1) := by decide +kernel
theorem dX3_init_0 : decode cX3_init 0 = .ok (.aload_n 0, 1) := by decide +kernel
theorem dX3_init_1 : decode cX3_init 1 = .ok (.invokespecial 1, 3) := by decide +kernel
theorem dX3_init_4 : decode cX3_init 4 = .ok (.aload_n 0, 1) := by decide +kernel
theorem dX3_init_5 : decode cX3_init 5 = .ok (.sipush 2048, 3) := by decide +kernel
theorem dX3_init_8 : decode cX3_init 8 = .ok (.newarray .int, 2) := by decide +kernel
theorem dX3_init_10 : decode cX3_init 10 = .ok (.putfield 7, 3) := by decide +kernel
theorem dX3_init_13 : decode cX3_init 13 = .ok (.aload_n 0, 1) := by decide +kernel
theorem dX3_init_14 : decode cX3_init 14 = .ok (.sipush 2048, 3) := by decide +kernel
theorem dX3_init_17 : decode cX3_init 17 = .ok (.newarray .int, 2) := by decide +kernel
theorem dX3_init_19 : decode cX3_init 19 = .ok (.putfield 13, 3) := by decide +kernel
theorem dX3_init_22 : decode cX3_init 22 = .ok (.aload_n 0, 1) := by decide +kernel
theorem dX3_init_23 : decode cX3_init 23 = .ok (.iconst 1, 1) := by decide +kernel
theorem dX3_init_24 : decode cX3_init 24 = .ok (.putfield 16, 3) := by decide +kernel
theorem dX3_init_27 : decode cX3_init 27 = .ok (.aload_n 0, 1) := by decide +kernel
theorem dX3_init_28 : decode cX3_init 28 = .ok (.sipush 2080, 3) := by decide +kernel
theorem dX3_init_31 : decode cX3_init 31 = .ok (.newarray .int, 2) := by decide +kernel
theorem dX3_init_33 : decode cX3_init 33 = .ok (.putfield 20, 3) := by decide +kernel
theorem dX3_init_36 : decode cX3_init 36 = .ok (.aload_n 0, 1) := by decide +kernel
theorem dX3_init_37 : decode cX3_init 37 = .ok (.sipush 240, 3) := by decide +kernel
theorem dX3_init_40 : decode cX3_init 40 = .ok (.newarray .int, 2) := by decide +kernel
theorem dX3_init_42 : decode cX3_init 42 = .ok (.putfield 23, 3) := by decide +kernel
theorem dX3_init_45 : decode cX3_init 45 = .ok (.aload_n 0, 1) := by decide +kernel
theorem dX3_init_46 : decode cX3_init 46 = .ok (.bipush 20, 2) := by decide +kernel
theorem dX3_init_48 : decode cX3_init 48 = .ok (.newarray .int, 2) := by decide +kernel
theorem dX3_init_50 : decode cX3_init 50 = .ok (.putfield 26, 3) := by decide +kernel
theorem dX3_init_53 : decode cX3_init 53 = .ok (.aload_n 0, 1) := by decide +kernel
theorem dX3_init_54 : decode cX3_init 54 = .ok (.bipush 32, 2) := by decide +kernel
theorem dX3_init_56 : decode cX3_init 56 = .ok (.iload_n 1, 1) := by decide +kernel
theorem dX3_init_57 : decode cX3_init 57 = .ok (.iconst 1, 1) := by decide +kernel
theorem dX3_init_58 : decode cX3_init 58 = .ok (.if_icmp .ge 7, 3) := by decide +kernel
theorem dX3_init_61 : decode cX3_init 61 = .ok (.iconst 1, 1) := by decide +kernel
theorem dX3_init_62 : decode cX3_init 62 = .ok (.goto 15, 3) := by decide +kernel
theorem dX3_init_65 : decode cX3_init 65 = .ok (.iload_n 1, 1) := by decide +kernel
theorem dX3_init_66 : decode cX3_init 66 = .ok (.bipush 64, 2) := by decide +kernel
theorem dX3_init_68 : decode cX3_init 68 = .ok (.if_icmp .le 8, 3) := by decide +kernel
theorem dX3_init_71 : decode cX3_init 71 = .ok (.bipush 64, 2) := by decide +kernel
theorem dX3_init_73 : decode cX3_init 73 = .ok (.goto 4, 3) := by decide +kernel
theorem dX3_init_76 : decode cX3_init 76 = .ok (.iload_n 1, 1) := by decide +kernel
theorem dX3_init_77 : decode cX3_init 77 = .ok (.imul, 1) := by decide +kernel
theorem dX3_init_78 : decode cX3_init 78 = .ok (.putfield 29, 3) := by decide +kernel
theorem dX3_init_81 : decode cX3_init 81 = .ok (.return_, 1) := by decide +kernel
theorem dX3_thrown_0 : decode cX3_thrown 0 = .ok (.aload_n 0, 1) := by decide +kernel
theorem dX3_thrown_1 : decode cX3_thrown 1 = .ok (.getfield 33, 3) := by decide +kernel
theorem dX3_thrown_4 : decode cX3_thrown 4 = .ok (.ireturn, 1) := by decide +kernel
theorem dX3_within_0 : decode cX3_within 0 = .ok (.iload_n 0, 1) := by decide +kernel
theorem dX3_within_1 : decode cX3_within 1 = .ok (.iload_n 1, 1) := by decide +kernel
theorem dX3_within_2 : decode cX3_within 2 = .ok (.if_icmp .lt 12, 3) := by decide +kernel
theorem dX3_within_5 : decode cX3_within 5 = .ok (.iload_n 0, 1) := by decide +kernel
theorem dX3_within_6 : decode cX3_within 6 = .ok (.iload_n 2, 1) := by decide +kernel
theorem dX3_within_7 : decode cX3_within 7 = .ok (.if_icmp .gt 7, 3) := by decide +kernel
theorem dX3_within_10 : decode cX3_within 10 = .ok (.iconst 1, 1) := by decide +kernel
theorem dX3_within_11 : decode cX3_within 11 = .ok (.goto 4, 3) := by decide +kernel
theorem dX3_within_14 : decode cX3_within 14 = .ok (.iconst 0, 1) := by decide +kernel
theorem dX3_within_15 : decode cX3_within 15 = .ok (.ireturn, 1) := by decide +kernel
theorem dX3_kindOf_0 : decode cX3_kindOf 0 = .ok (.aload_n 0, 1) := by decide +kernel
theorem dX3_kindOf_1 : decode cX3_kindOf 1 = .ok (.getfield 20, 3) := by decide +kernel
theorem dX3_kindOf_4 : decode cX3_kindOf 4 = .ok (.aload_n 0, 1) := by decide +kernel
theorem dX3_kindOf_5 : decode cX3_kindOf 5 = .ok (.getfield 23, 3) := by decide +kernel
theorem dX3_kindOf_8 : decode cX3_kindOf 8 = .ok (.iload_n 1, 1) := by decide +kernel
theorem dX3_kindOf_9 : decode cX3_kindOf 9 = .ok (.iaload, 1) := by decide +kernel
theorem dX3_kindOf_10 : decode cX3_kindOf 10 = .ok (.iconst 1, 1) := by decide +kernel
theorem dX3_kindOf_11 : decode cX3_kindOf 11 = .ok (.iadd, 1) := by decide +kernel
theorem dX3_kindOf_12 : decode cX3_kindOf 12 = .ok (.iaload, 1) := by decide +kernel
theorem dX3_kindOf_13 : decode cX3_kindOf 13 = .ok (.ireturn, 1) := by decide +kernel
theorem dX3_longOf_0 : decode cX3_longOf 0 = .ok (.aload_n 0, 1) := by decide +kernel
theorem dX3_longOf_1 : decode cX3_longOf 1 = .ok (.getfield 20, 3) := by decide +kernel
theorem dX3_longOf_4 : decode cX3_longOf 4 = .ok (.aload_n 0, 1) := by decide +kernel
theorem dX3_longOf_5 : decode cX3_longOf 5 = .ok (.getfield 23, 3) := by decide +kernel
theorem dX3_longOf_8 : decode cX3_longOf 8 = .ok (.iload_n 1, 1) := by decide +kernel
theorem dX3_longOf_9 : decode cX3_longOf 9 = .ok (.iaload, 1) := by decide +kernel
theorem dX3_longOf_10 : decode cX3_longOf 10 = .ok (.iconst 4, 1) := by decide +kernel
theorem dX3_longOf_11 : decode cX3_longOf 11 = .ok (.iadd, 1) := by decide +kernel
theorem dX3_longOf_12 : decode cX3_longOf 12 = .ok (.iaload, 1) := by decide +kernel
theorem dX3_longOf_13 : decode cX3_longOf 13 = .ok (.ireturn, 1) := by decide +kernel
set_option maxRecDepth 20000 in
theorem ggX3_rowsOf_X3_kindOf : GoodIn wsX3_rowsOf wsX3_kindOf := goodIn_r _ [5, 6, 7, 8, 9, 10, 11, 12, 13, 14, 15, 16, 17, 18, 19, 20] (by decide +kernel) (by decide +kernel)
set_option maxRecDepth 20000 in
theorem gX3_rowsOf_X3_kindOf : GoodIn wsX3_rowsOf (wsV RX3 36 RX3 yX3_kindOf wsX3_kindOf) := goodIn_app (goodIn_of _ (by decide +kernel)) ggX3_rowsOf_X3_kindOf
theorem dX3_rowsOf_0 : decode cX3_rowsOf 0 = .ok (.iconst 0, 1) := by decide +kernel
theorem dX3_rowsOf_1 : decode cX3_rowsOf 1 = .ok (.istore_n 3, 1) := by decide +kernel
theorem dX3_rowsOf_2 : decode cX3_rowsOf 2 = .ok (.iconst 0, 1) := by decide +kernel
theorem dX3_rowsOf_3 : decode cX3_rowsOf 3 = .ok (.istore 4, 2) := by decide +kernel
theorem dX3_rowsOf_5 : decode cX3_rowsOf 5 = .ok (.iload 4, 2) := by decide +kernel
theorem dX3_rowsOf_7 : decode cX3_rowsOf 7 = .ok (.iload_n 2, 1) := by decide +kernel
theorem dX3_rowsOf_8 : decode cX3_rowsOf 8 = .ok (.if_icmp .ge 22, 3) := by decide +kernel
theorem dX3_rowsOf_11 : decode cX3_rowsOf 11 = .ok (.aload_n 0, 1) := by decide +kernel
theorem dX3_rowsOf_12 : decode cX3_rowsOf 12 = .ok (.iload 4, 2) := by decide +kernel
theorem dX3_rowsOf_14 : decode cX3_rowsOf 14 = .ok (.invokevirtual 36, 3) := by decide +kernel
theorem dX3_rowsOf_17 : decode cX3_rowsOf 17 = .ok (.iload_n 1, 1) := by decide +kernel
theorem dX3_rowsOf_18 : decode cX3_rowsOf 18 = .ok (.if_icmp .ne 6, 3) := by decide +kernel
theorem dX3_rowsOf_21 : decode cX3_rowsOf 21 = .ok (.iinc 3 1, 3) := by decide +kernel
theorem dX3_rowsOf_24 : decode cX3_rowsOf 24 = .ok (.iinc 4 1, 3) := by decide +kernel
theorem dX3_rowsOf_27 : decode cX3_rowsOf 27 = .ok (.goto (-22), 3) := by decide +kernel
theorem dX3_rowsOf_30 : decode cX3_rowsOf 30 = .ok (.iload_n 3, 1) := by decide +kernel
theorem dX3_rowsOf_31 : decode cX3_rowsOf 31 = .ok (.ireturn, 1) := by decide +kernel
theorem dX3_sumOf_0 : decode cX3_sumOf 0 = .ok (.iconst 1, 1) := by decide +kernel
theorem dX3_sumOf_1 : decode cX3_sumOf 1 = .ok (.istore_n 3, 1) := by decide +kernel
theorem dX3_sumOf_2 : decode cX3_sumOf 2 = .ok (.iload_n 1, 1) := by decide +kernel
theorem dX3_sumOf_3 : decode cX3_sumOf 3 = .ok (.istore 4, 2) := by decide +kernel
theorem dX3_sumOf_5 : decode cX3_sumOf 5 = .ok (.iload 4, 2) := by decide +kernel
theorem dX3_sumOf_7 : decode cX3_sumOf 7 = .ok (.iload_n 2, 1) := by decide +kernel
theorem dX3_sumOf_8 : decode cX3_sumOf 8 = .ok (.if_icmp .ge 31, 3) := by decide +kernel
theorem dX3_sumOf_11 : decode cX3_sumOf 11 = .ok (.iload_n 3, 1) := by decide +kernel
theorem dX3_sumOf_12 : decode cX3_sumOf 12 = .ok (.aload_n 0, 1) := by decide +kernel
theorem dX3_sumOf_13 : decode cX3_sumOf 13 = .ok (.iload 4, 2) := by decide +kernel
theorem dX3_sumOf_15 : decode cX3_sumOf 15 = .ok (.iaload, 1) := by decide +kernel
theorem dX3_sumOf_16 : decode cX3_sumOf 16 = .ok (.ixor, 1) := by decide +kernel
theorem dX3_sumOf_17 : decode cX3_sumOf 17 = .ok (.istore_n 3, 1) := by decide +kernel
theorem dX3_sumOf_18 : decode cX3_sumOf 18 = .ok (.iload_n 3, 1) := by decide +kernel
theorem dX3_sumOf_19 : decode cX3_sumOf 19 = .ok (.bipush 7, 2) := by decide +kernel
theorem dX3_sumOf_21 : decode cX3_sumOf 21 = .ok (.ishl, 1) := by decide +kernel
theorem dX3_sumOf_22 : decode cX3_sumOf 22 = .ok (.iload_n 3, 1) := by decide +kernel
theorem dX3_sumOf_23 : decode cX3_sumOf 23 = .ok (.bipush 25, 2) := by decide +kernel
theorem dX3_sumOf_25 : decode cX3_sumOf 25 = .ok (.iushr, 1) := by decide +kernel
theorem dX3_sumOf_26 : decode cX3_sumOf 26 = .ok (.ior, 1) := by decide +kernel
theorem dX3_sumOf_27 : decode cX3_sumOf 27 = .ok (.istore_n 3, 1) := by decide +kernel
theorem dX3_sumOf_28 : decode cX3_sumOf 28 = .ok (.iload_n 3, 1) := by decide +kernel
theorem dX3_sumOf_29 : decode cX3_sumOf 29 = .ok (.ldc 40, 2) := by decide +kernel
theorem dX3_sumOf_31 : decode cX3_sumOf 31 = .ok (.imul, 1) := by decide +kernel
theorem dX3_sumOf_32 : decode cX3_sumOf 32 = .ok (.istore_n 3, 1) := by decide +kernel
theorem dX3_sumOf_33 : decode cX3_sumOf 33 = .ok (.iinc 4 1, 3) := by decide +kernel
theorem dX3_sumOf_36 : decode cX3_sumOf 36 = .ok (.goto (-31), 3) := by decide +kernel
theorem dX3_sumOf_39 : decode cX3_sumOf 39 = .ok (.iload_n 3, 1) := by decide +kernel
theorem dX3_sumOf_40 : decode cX3_sumOf 40 = .ok (.ireturn, 1) := by decide +kernel
theorem dX3_isFull_0 : decode cX3_isFull 0 = .ok (.aload_n 0, 1) := by decide +kernel
theorem dX3_isFull_1 : decode cX3_isFull 1 = .ok (.getfield 23, 3) := by decide +kernel
theorem dX3_isFull_4 : decode cX3_isFull 4 = .ok (.aload_n 0, 1) := by decide +kernel
theorem dX3_isFull_5 : decode cX3_isFull 5 = .ok (.getfield 41, 3) := by decide +kernel
theorem dX3_isFull_8 : decode cX3_isFull 8 = .ok (.iaload, 1) := by decide +kernel
theorem dX3_isFull_9 : decode cX3_isFull 9 = .ok (.bipush 9, 2) := by decide +kernel
theorem dX3_isFull_11 : decode cX3_isFull 11 = .ok (.iadd, 1) := by decide +kernel
theorem dX3_isFull_12 : decode cX3_isFull 12 = .ok (.iload_n 1, 1) := by decide +kernel
theorem dX3_isFull_13 : decode cX3_isFull 13 = .ok (.iadd, 1) := by decide +kernel
theorem dX3_isFull_14 : decode cX3_isFull 14 = .ok (.aload_n 0, 1) := by decide +kernel
theorem dX3_isFull_15 : decode cX3_isFull 15 = .ok (.getfield 29, 3) := by decide +kernel
theorem dX3_isFull_18 : decode cX3_isFull 18 = .ok (.if_icmp .le 7, 3) := by decide +kernel
theorem dX3_isFull_21 : decode cX3_isFull 21 = .ok (.iconst 1, 1) := by decide +kernel
theorem dX3_isFull_22 : decode cX3_isFull 22 = .ok (.goto 4, 3) := by decide +kernel
theorem dX3_isFull_25 : decode cX3_isFull 25 = .ok (.iconst 0, 1) := by decide +kernel
theorem dX3_isFull_26 : decode cX3_isFull 26 = .ok (.ireturn, 1) := by decide +kernel
theorem dX3_head_0 : decode cX3_head 0 = .ok (.aload_n 0, 1) := by decide +kernel
theorem dX3_head_1 : decode cX3_head 1 = .ok (.getfield 23, 3) := by decide +kernel
theorem dX3_head_4 : decode cX3_head 4 = .ok (.aload_n 0, 1) := by decide +kernel
theorem dX3_head_5 : decode cX3_head 5 = .ok (.getfield 41, 3) := by decide +kernel
theorem dX3_head_8 : decode cX3_head 8 = .ok (.iaload, 1) := by decide +kernel
theorem dX3_head_9 : decode cX3_head 9 = .ok (.istore_n 3, 1) := by decide +kernel
theorem dX3_head_10 : decode cX3_head 10 = .ok (.aload_n 0, 1) := by decide +kernel
theorem dX3_head_11 : decode cX3_head 11 = .ok (.getfield 20, 3) := by decide +kernel
theorem dX3_head_14 : decode cX3_head 14 = .ok (.iload_n 3, 1) := by decide +kernel
theorem dX3_head_15 : decode cX3_head 15 = .ok (.bipush 90, 2) := by decide +kernel
theorem dX3_head_17 : decode cX3_head 17 = .ok (.iastore, 1) := by decide +kernel
theorem dX3_head_18 : decode cX3_head 18 = .ok (.aload_n 0, 1) := by decide +kernel
theorem dX3_head_19 : decode cX3_head 19 = .ok (.getfield 20, 3) := by decide +kernel
theorem dX3_head_22 : decode cX3_head 22 = .ok (.iload_n 3, 1) := by decide +kernel
theorem dX3_head_23 : decode cX3_head 23 = .ok (.iconst 1, 1) := by decide +kernel
theorem dX3_head_24 : decode cX3_head 24 = .ok (.iadd, 1) := by decide +kernel
theorem dX3_head_25 : decode cX3_head 25 = .ok (.iload_n 1, 1) := by decide +kernel
theorem dX3_head_26 : decode cX3_head 26 = .ok (.iastore, 1) := by decide +kernel
theorem dX3_head_27 : decode cX3_head 27 = .ok (.aload_n 0, 1) := by decide +kernel
theorem dX3_head_28 : decode cX3_head 28 = .ok (.getfield 20, 3) := by decide +kernel
theorem dX3_head_31 : decode cX3_head 31 = .ok (.iload_n 3, 1) := by decide +kernel
theorem dX3_head_32 : decode cX3_head 32 = .ok (.iconst 2, 1) := by decide +kernel
theorem dX3_head_33 : decode cX3_head 33 = .ok (.iadd, 1) := by decide +kernel
theorem dX3_head_34 : decode cX3_head 34 = .ok (.aload_n 0, 1) := by decide +kernel
theorem dX3_head_35 : decode cX3_head 35 = .ok (.getfield 41, 3) := by decide +kernel
theorem dX3_head_38 : decode cX3_head 38 = .ok (.iconst 1, 1) := by decide +kernel
theorem dX3_head_39 : decode cX3_head 39 = .ok (.iadd, 1) := by decide +kernel
theorem dX3_head_40 : decode cX3_head 40 = .ok (.bipush 8, 2) := by decide +kernel
theorem dX3_head_42 : decode cX3_head 42 = .ok (.ishr, 1) := by decide +kernel
theorem dX3_head_43 : decode cX3_head 43 = .ok (.iastore, 1) := by decide +kernel
theorem dX3_head_44 : decode cX3_head 44 = .ok (.aload_n 0, 1) := by decide +kernel
theorem dX3_head_45 : decode cX3_head 45 = .ok (.getfield 20, 3) := by decide +kernel
theorem dX3_head_48 : decode cX3_head 48 = .ok (.iload_n 3, 1) := by decide +kernel
theorem dX3_head_49 : decode cX3_head 49 = .ok (.iconst 3, 1) := by decide +kernel
theorem dX3_head_50 : decode cX3_head 50 = .ok (.iadd, 1) := by decide +kernel
theorem dX3_head_51 : decode cX3_head 51 = .ok (.aload_n 0, 1) := by decide +kernel
theorem dX3_head_52 : decode cX3_head 52 = .ok (.getfield 41, 3) := by decide +kernel
theorem dX3_head_55 : decode cX3_head 55 = .ok (.iconst 1, 1) := by decide +kernel
theorem dX3_head_56 : decode cX3_head 56 = .ok (.iadd, 1) := by decide +kernel
theorem dX3_head_57 : decode cX3_head 57 = .ok (.sipush 255, 3) := by decide +kernel
theorem dX3_head_60 : decode cX3_head 60 = .ok (.iand, 1) := by decide +kernel
theorem dX3_head_61 : decode cX3_head 61 = .ok (.iastore, 1) := by decide +kernel
theorem dX3_head_62 : decode cX3_head 62 = .ok (.aload_n 0, 1) := by decide +kernel
theorem dX3_head_63 : decode cX3_head 63 = .ok (.getfield 20, 3) := by decide +kernel
theorem dX3_head_66 : decode cX3_head 66 = .ok (.iload_n 3, 1) := by decide +kernel
theorem dX3_head_67 : decode cX3_head 67 = .ok (.iconst 4, 1) := by decide +kernel
theorem dX3_head_68 : decode cX3_head 68 = .ok (.iadd, 1) := by decide +kernel
theorem dX3_head_69 : decode cX3_head 69 = .ok (.iload_n 2, 1) := by decide +kernel
theorem dX3_head_70 : decode cX3_head 70 = .ok (.iastore, 1) := by decide +kernel
theorem dX3_head_71 : decode cX3_head 71 = .ok (.iload_n 3, 1) := by decide +kernel
theorem dX3_head_72 : decode cX3_head 72 = .ok (.iconst 5, 1) := by decide +kernel
theorem dX3_head_73 : decode cX3_head 73 = .ok (.iadd, 1) := by decide +kernel
theorem dX3_head_74 : decode cX3_head 74 = .ok (.ireturn, 1) := by decide +kernel
set_option maxRecDepth 20000 in
theorem ggX3_close_X3_sumOf : GoodIn wsX3_close wsX3_sumOf := goodIn_r _ [7, 8] (by decide +kernel) (by decide +kernel)
set_option maxRecDepth 20000 in
theorem gX3_close_X3_sumOf : GoodIn wsX3_close (va_wsS RX3 44 yX3_sumOf wsX3_sumOf) := goodIn_app (goodIn_of _ (by decide +kernel)) ggX3_close_X3_sumOf
theorem dX3_close_0 : decode cX3_close 0 = .ok (.aload_n 0, 1) := by decide +kernel
theorem dX3_close_1 : decode cX3_close 1 = .ok (.getfield 20, 3) := by decide +kernel
theorem dX3_close_4 : decode cX3_close 4 = .ok (.aload_n 0, 1) := by decide +kernel
theorem dX3_close_5 : decode cX3_close 5 = .ok (.getfield 23, 3) := by decide +kernel
theorem dX3_close_8 : decode cX3_close 8 = .ok (.aload_n 0, 1) := by decide +kernel
theorem dX3_close_9 : decode cX3_close 9 = .ok (.getfield 41, 3) := by decide +kernel
theorem dX3_close_12 : decode cX3_close 12 = .ok (.iaload, 1) := by decide +kernel
theorem dX3_close_13 : decode cX3_close 13 = .ok (.iconst 1, 1) := by decide +kernel
theorem dX3_close_14 : decode cX3_close 14 = .ok (.iadd, 1) := by decide +kernel
theorem dX3_close_15 : decode cX3_close 15 = .ok (.iload_n 1, 1) := by decide +kernel
theorem dX3_close_16 : decode cX3_close 16 = .ok (.invokestatic 44, 3) := by decide +kernel
theorem dX3_close_19 : decode cX3_close 19 = .ok (.istore_n 2, 1) := by decide +kernel
theorem dX3_close_20 : decode cX3_close 20 = .ok (.iconst 0, 1) := by decide +kernel
theorem dX3_close_21 : decode cX3_close 21 = .ok (.istore_n 3, 1) := by decide +kernel
theorem dX3_close_22 : decode cX3_close 22 = .ok (.iload_n 3, 1) := by decide +kernel
theorem dX3_close_23 : decode cX3_close 23 = .ok (.iconst 4, 1) := by decide +kernel
theorem dX3_close_24 : decode cX3_close 24 = .ok (.if_icmp .ge 30, 3) := by decide +kernel
theorem dX3_close_27 : decode cX3_close 27 = .ok (.aload_n 0, 1) := by decide +kernel
theorem dX3_close_28 : decode cX3_close 28 = .ok (.getfield 20, 3) := by decide +kernel
theorem dX3_close_31 : decode cX3_close 31 = .ok (.iload_n 1, 1) := by decide +kernel
theorem dX3_close_32 : decode cX3_close 32 = .ok (.iload_n 3, 1) := by decide +kernel
theorem dX3_close_33 : decode cX3_close 33 = .ok (.iadd, 1) := by decide +kernel
theorem dX3_close_34 : decode cX3_close 34 = .ok (.iload_n 2, 1) := by decide +kernel
theorem dX3_close_35 : decode cX3_close 35 = .ok (.bipush 24, 2) := by decide +kernel
theorem dX3_close_37 : decode cX3_close 37 = .ok (.bipush 8, 2) := by decide +kernel
theorem dX3_close_39 : decode cX3_close 39 = .ok (.iload_n 3, 1) := by decide +kernel
theorem dX3_close_40 : decode cX3_close 40 = .ok (.imul, 1) := by decide +kernel
theorem dX3_close_41 : decode cX3_close 41 = .ok (.isub, 1) := by decide +kernel
theorem dX3_close_42 : decode cX3_close 42 = .ok (.iushr, 1) := by decide +kernel
theorem dX3_close_43 : decode cX3_close 43 = .ok (.sipush 255, 3) := by decide +kernel
theorem dX3_close_46 : decode cX3_close 46 = .ok (.iand, 1) := by decide +kernel
theorem dX3_close_47 : decode cX3_close 47 = .ok (.iastore, 1) := by decide +kernel
theorem dX3_close_48 : decode cX3_close 48 = .ok (.iinc 3 1, 3) := by decide +kernel
theorem dX3_close_51 : decode cX3_close 51 = .ok (.goto (-29), 3) := by decide +kernel
theorem dX3_close_54 : decode cX3_close 54 = .ok (.aload_n 0, 1) := by decide +kernel
theorem dX3_close_55 : decode cX3_close 55 = .ok (.dup, 1) := by decide +kernel
theorem dX3_close_56 : decode cX3_close 56 = .ok (.getfield 41, 3) := by decide +kernel
theorem dX3_close_59 : decode cX3_close 59 = .ok (.iconst 1, 1) := by decide +kernel
theorem dX3_close_60 : decode cX3_close 60 = .ok (.iadd, 1) := by decide +kernel
theorem dX3_close_61 : decode cX3_close 61 = .ok (.putfield 41, 3) := by decide +kernel
theorem dX3_close_64 : decode cX3_close 64 = .ok (.aload_n 0, 1) := by decide +kernel
theorem dX3_close_65 : decode cX3_close 65 = .ok (.getfield 23, 3) := by decide +kernel
theorem dX3_close_68 : decode cX3_close 68 = .ok (.aload_n 0, 1) := by decide +kernel
theorem dX3_close_69 : decode cX3_close 69 = .ok (.getfield 41, 3) := by decide +kernel
theorem dX3_close_72 : decode cX3_close 72 = .ok (.iload_n 1, 1) := by decide +kernel
theorem dX3_close_73 : decode cX3_close 73 = .ok (.iconst 4, 1) := by decide +kernel
theorem dX3_close_74 : decode cX3_close 74 = .ok (.iadd, 1) := by decide +kernel
theorem dX3_close_75 : decode cX3_close 75 = .ok (.iastore, 1) := by decide +kernel
theorem dX3_close_76 : decode cX3_close 76 = .ok (.return_, 1) := by decide +kernel
set_option maxRecDepth 20000 in
theorem ggX3_add_X3_within : GoodIn wsX3_add wsX3_within := goodIn_r _ [8] (by decide +kernel) (by decide +kernel)
set_option maxRecDepth 20000 in
theorem gX3_add_X3_within : GoodIn wsX3_add (va_wsS RX3 48 yX3_within wsX3_within) := goodIn_app (goodIn_of _ (by decide +kernel)) ggX3_add_X3_within
theorem dX3_add_0 : decode cX3_add 0 = .ok (.aload_n 0, 1) := by decide +kernel
theorem dX3_add_1 : decode cX3_add 1 = .ok (.iload_n 1, 1) := by decide +kernel
theorem dX3_add_2 : decode cX3_add 2 = .ok (.iconst 0, 1) := by decide +kernel
theorem dX3_add_3 : decode cX3_add 3 = .ok (.sipush 255, 3) := by decide +kernel
theorem dX3_add_6 : decode cX3_add 6 = .ok (.invokestatic 48, 3) := by decide +kernel
theorem dX3_add_9 : decode cX3_add 9 = .ok (.ifCond .ne 7, 3) := by decide +kernel
theorem dX3_add_12 : decode cX3_add 12 = .ok (.iconst 1, 1) := by decide +kernel
theorem dX3_add_13 : decode cX3_add 13 = .ok (.goto 28, 3) := by decide +kernel
theorem dX3_add_16 : decode cX3_add 16 = .ok (.aload_n 0, 1) := by decide +kernel
theorem dX3_add_17 : decode cX3_add 17 = .ok (.getfield 16, 3) := by decide +kernel
theorem dX3_add_20 : decode cX3_add 20 = .ok (.ifCond .ne 7, 3) := by decide +kernel
theorem dX3_add_23 : decode cX3_add 23 = .ok (.iconst 2, 1) := by decide +kernel
theorem dX3_add_24 : decode cX3_add 24 = .ok (.goto 17, 3) := by decide +kernel
theorem dX3_add_27 : decode cX3_add 27 = .ok (.aload_n 0, 1) := by decide +kernel
theorem dX3_add_28 : decode cX3_add 28 = .ok (.getfield 52, 3) := by decide +kernel
theorem dX3_add_31 : decode cX3_add 31 = .ok (.bipush 20, 2) := by decide +kernel
theorem dX3_add_33 : decode cX3_add 33 = .ok (.if_icmp .ne 7, 3) := by decide +kernel
theorem dX3_add_36 : decode cX3_add 36 = .ok (.iconst 3, 1) := by decide +kernel
theorem dX3_add_37 : decode cX3_add 37 = .ok (.goto 4, 3) := by decide +kernel
theorem dX3_add_40 : decode cX3_add 40 = .ok (.iconst 0, 1) := by decide +kernel
theorem dX3_add_41 : decode cX3_add 41 = .ok (.putfield 33, 3) := by decide +kernel
theorem dX3_add_44 : decode cX3_add 44 = .ok (.aload_n 0, 1) := by decide +kernel
theorem dX3_add_45 : decode cX3_add 45 = .ok (.getfield 33, 3) := by decide +kernel
theorem dX3_add_48 : decode cX3_add 48 = .ok (.ifCond .eq 5, 3) := by decide +kernel
theorem dX3_add_51 : decode cX3_add 51 = .ok (.iconst 0, 1) := by decide +kernel
theorem dX3_add_52 : decode cX3_add 52 = .ok (.ireturn, 1) := by decide +kernel
theorem dX3_add_53 : decode cX3_add 53 = .ok (.aload_n 0, 1) := by decide +kernel
theorem dX3_add_54 : decode cX3_add 54 = .ok (.getfield 26, 3) := by decide +kernel
theorem dX3_add_57 : decode cX3_add 57 = .ok (.aload_n 0, 1) := by decide +kernel
theorem dX3_add_58 : decode cX3_add 58 = .ok (.getfield 52, 3) := by decide +kernel
theorem dX3_add_61 : decode cX3_add 61 = .ok (.iload_n 1, 1) := by decide +kernel
theorem dX3_add_62 : decode cX3_add 62 = .ok (.iastore, 1) := by decide +kernel
end
section
theorem dX3_add_63 : decode cX3_add 63 = .ok (.aload_n 0, 1) := by decide +kernel
theorem dX3_add_64 : decode cX3_add 64 = .ok (.dup, 1) := by decide +kernel
theorem dX3_add_65 : decode cX3_add 65 = .ok (.getfield 52, 3) := by decide +kernel
theorem dX3_add_68 : decode cX3_add 68 = .ok (.iconst 1, 1) := by decide +kernel
theorem dX3_add_69 : decode cX3_add 69 = .ok (.iadd, 1) := by decide +kernel
theorem dX3_add_70 : decode cX3_add 70 = .ok (.putfield 52, 3) := by decide +kernel
theorem dX3_add_73 : decode cX3_add 73 = .ok (.aload_n 0, 1) := by decide +kernel
theorem dX3_add_74 : decode cX3_add 74 = .ok (.getfield 52, 3) := by decide +kernel
theorem dX3_add_77 : decode cX3_add 77 = .ok (.ireturn, 1) := by decide +kernel
set_option maxRecDepth 20000 in
theorem ggX3_end_X3_within : GoodIn wsX3_end wsX3_within := goodIn_r _ [10] (by decide +kernel) (by decide +kernel)
set_option maxRecDepth 20000 in
theorem gX3_end_X3_within : GoodIn wsX3_end (va_wsS RX3 48 yX3_within wsX3_within) := goodIn_app (goodIn_of _ (by decide +kernel)) ggX3_end_X3_within
set_option maxRecDepth 20000 in
theorem ggX3_end_X3_isFull : GoodIn wsX3_end wsX3_isFull := goodIn_r _ [14, 15, 6, 16, 29, 30, 31, 32, 33, 34, 35, 36, 37, 38, 39, 40, 41] (by decide +kernel) (by decide +kernel)
set_option maxRecDepth 20000 in
theorem gX3_end_X3_isFull : GoodIn wsX3_end (wsV RX3 55 RX3 yX3_isFull wsX3_isFull) := goodIn_app (goodIn_of _ (by decide +kernel)) ggX3_end_X3_isFull
set_option maxRecDepth 20000 in
theorem ggX3_end_X3_head : GoodIn wsX3_end wsX3_head := goodIn_r _ [20, 15, 6, 4, 29, 30, 31, 32, 33, 34, 35, 36, 37, 38, 39, 40, 41] (by decide +kernel) (by decide +kernel)
set_option maxRecDepth 20000 in
theorem gX3_end_X3_head : GoodIn wsX3_end (wsV RX3 59 RX3 yX3_head wsX3_head) := goodIn_app (goodIn_of _ (by decide +kernel)) ggX3_end_X3_head
set_option maxRecDepth 20000 in
theorem ggX3_end_X3_close : GoodIn wsX3_end wsX3_close := goodIn_r _ [24, 4, 15, 6, 25, 26, 9, 27, 28, 29, 30, 31, 32, 33, 34, 35, 36, 37, 38, 39, 40, 41] (by decide +kernel) (by decide +kernel)
set_option maxRecDepth 20000 in
theorem gX3_end_X3_close : GoodIn wsX3_end (wsV RX3 63 RX3 yX3_close wsX3_close) := goodIn_app (goodIn_of _ (by decide +kernel)) ggX3_end_X3_close
theorem dX3_end_0 : decode cX3_end 0 = .ok (.aload_n 0, 1) := by decide +kernel
theorem dX3_end_1 : decode cX3_end 1 = .ok (.iload_n 1, 1) := by decide +kernel
theorem dX3_end_2 : decode cX3_end 2 = .ok (.iconst 1, 1) := by decide +kernel
theorem dX3_end_3 : decode cX3_end 3 = .ok (.iconst 4, 1) := by decide +kernel
theorem dX3_end_4 : decode cX3_end 4 = .ok (.invokestatic 48, 3) := by decide +kernel
theorem dX3_end_7 : decode cX3_end 7 = .ok (.ifCond .ne 7, 3) := by decide +kernel
theorem dX3_end_10 : decode cX3_end 10 = .ok (.iconst 1, 1) := by decide +kernel
theorem dX3_end_11 : decode cX3_end 11 = .ok (.goto 30, 3) := by decide +kernel
theorem dX3_end_14 : decode cX3_end 14 = .ok (.aload_n 0, 1) := by decide +kernel
theorem dX3_end_15 : decode cX3_end 15 = .ok (.getfield 16, 3) := by decide +kernel
theorem dX3_end_18 : decode cX3_end 18 = .ok (.ifCond .ne 7, 3) := by decide +kernel
theorem dX3_end_21 : decode cX3_end 21 = .ok (.iconst 2, 1) := by decide +kernel
theorem dX3_end_22 : decode cX3_end 22 = .ok (.goto 19, 3) := by decide +kernel
theorem dX3_end_25 : decode cX3_end 25 = .ok (.aload_n 0, 1) := by decide +kernel
theorem dX3_end_26 : decode cX3_end 26 = .ok (.aload_n 0, 1) := by decide +kernel
theorem dX3_end_27 : decode cX3_end 27 = .ok (.getfield 52, 3) := by decide +kernel
theorem dX3_end_30 : decode cX3_end 30 = .ok (.invokevirtual 55, 3) := by decide +kernel
theorem dX3_end_33 : decode cX3_end 33 = .ok (.ifCond .eq 7, 3) := by decide +kernel
theorem dX3_end_36 : decode cX3_end 36 = .ok (.iconst 3, 1) := by decide +kernel
theorem dX3_end_37 : decode cX3_end 37 = .ok (.goto 4, 3) := by decide +kernel
theorem dX3_end_40 : decode cX3_end 40 = .ok (.iconst 0, 1) := by decide +kernel
theorem dX3_end_41 : decode cX3_end 41 = .ok (.putfield 33, 3) := by decide +kernel
theorem dX3_end_44 : decode cX3_end 44 = .ok (.aload_n 0, 1) := by decide +kernel
theorem dX3_end_45 : decode cX3_end 45 = .ok (.getfield 33, 3) := by decide +kernel
theorem dX3_end_48 : decode cX3_end 48 = .ok (.ifCond .eq 5, 3) := by decide +kernel
theorem dX3_end_51 : decode cX3_end 51 = .ok (.iconst 0, 1) := by decide +kernel
theorem dX3_end_52 : decode cX3_end 52 = .ok (.ireturn, 1) := by decide +kernel
theorem dX3_end_53 : decode cX3_end 53 = .ok (.aload_n 0, 1) := by decide +kernel
theorem dX3_end_54 : decode cX3_end 54 = .ok (.iload_n 1, 1) := by decide +kernel
theorem dX3_end_55 : decode cX3_end 55 = .ok (.aload_n 0, 1) := by decide +kernel
theorem dX3_end_56 : decode cX3_end 56 = .ok (.getfield 52, 3) := by decide +kernel
theorem dX3_end_59 : decode cX3_end 59 = .ok (.invokevirtual 59, 3) := by decide +kernel
theorem dX3_end_62 : decode cX3_end 62 = .ok (.istore_n 2, 1) := by decide +kernel
theorem dX3_end_63 : decode cX3_end 63 = .ok (.iconst 0, 1) := by decide +kernel
theorem dX3_end_64 : decode cX3_end 64 = .ok (.istore_n 3, 1) := by decide +kernel
theorem dX3_end_65 : decode cX3_end 65 = .ok (.iload_n 3, 1) := by decide +kernel
theorem dX3_end_66 : decode cX3_end 66 = .ok (.aload_n 0, 1) := by decide +kernel
theorem dX3_end_67 : decode cX3_end 67 = .ok (.getfield 52, 3) := by decide +kernel
theorem dX3_end_70 : decode cX3_end 70 = .ok (.if_icmp .ge 23, 3) := by decide +kernel
theorem dX3_end_73 : decode cX3_end 73 = .ok (.aload_n 0, 1) := by decide +kernel
theorem dX3_end_74 : decode cX3_end 74 = .ok (.getfield 20, 3) := by decide +kernel
theorem dX3_end_77 : decode cX3_end 77 = .ok (.iload_n 2, 1) := by decide +kernel
theorem dX3_end_78 : decode cX3_end 78 = .ok (.iload_n 3, 1) := by decide +kernel
theorem dX3_end_79 : decode cX3_end 79 = .ok (.iadd, 1) := by decide +kernel
theorem dX3_end_80 : decode cX3_end 80 = .ok (.aload_n 0, 1) := by decide +kernel
theorem dX3_end_81 : decode cX3_end 81 = .ok (.getfield 26, 3) := by decide +kernel
theorem dX3_end_84 : decode cX3_end 84 = .ok (.iload_n 3, 1) := by decide +kernel
theorem dX3_end_85 : decode cX3_end 85 = .ok (.iaload, 1) := by decide +kernel
theorem dX3_end_86 : decode cX3_end 86 = .ok (.iastore, 1) := by decide +kernel
theorem dX3_end_87 : decode cX3_end 87 = .ok (.iinc 3 1, 3) := by decide +kernel
theorem dX3_end_90 : decode cX3_end 90 = .ok (.goto (-25), 3) := by decide +kernel
theorem dX3_end_93 : decode cX3_end 93 = .ok (.aload_n 0, 1) := by decide +kernel
theorem dX3_end_94 : decode cX3_end 94 = .ok (.iload_n 2, 1) := by decide +kernel
theorem dX3_end_95 : decode cX3_end 95 = .ok (.aload_n 0, 1) := by decide +kernel
theorem dX3_end_96 : decode cX3_end 96 = .ok (.getfield 52, 3) := by decide +kernel
theorem dX3_end_99 : decode cX3_end 99 = .ok (.iadd, 1) := by decide +kernel
theorem dX3_end_100 : decode cX3_end 100 = .ok (.invokevirtual 63, 3) := by decide +kernel
theorem dX3_end_103 : decode cX3_end 103 = .ok (.aload_n 0, 1) := by decide +kernel
theorem dX3_end_104 : decode cX3_end 104 = .ok (.iconst 0, 1) := by decide +kernel
theorem dX3_end_105 : decode cX3_end 105 = .ok (.putfield 52, 3) := by decide +kernel
theorem dX3_end_108 : decode cX3_end 108 = .ok (.aload_n 0, 1) := by decide +kernel
theorem dX3_end_109 : decode cX3_end 109 = .ok (.getfield 41, 3) := by decide +kernel
theorem dX3_end_112 : decode cX3_end 112 = .ok (.ireturn, 1) := by decide +kernel
set_option maxRecDepth 20000 in
theorem ggX3_whole_X3_isFull : GoodIn wsX3_whole wsX3_isFull := goodIn_r _ [9, 10, 3, 11, 32, 33, 34, 35, 36, 37, 38, 39, 40, 41, 42, 43, 44] (by decide +kernel) (by decide +kernel)
set_option maxRecDepth 20000 in
theorem gX3_whole_X3_isFull : GoodIn wsX3_whole (wsV RX3 55 RX3 yX3_isFull wsX3_isFull) := goodIn_app (goodIn_of _ (by decide +kernel)) ggX3_whole_X3_isFull
set_option maxRecDepth 20000 in
theorem ggX3_whole_X3_head : GoodIn wsX3_whole wsX3_head := goodIn_r _ [15, 10, 3, 4, 32, 33, 34, 35, 36, 37, 38, 39, 40, 41, 42, 43, 44] (by decide +kernel) (by decide +kernel)
set_option maxRecDepth 20000 in
theorem gX3_whole_X3_head : GoodIn wsX3_whole (wsV RX3 59 RX3 yX3_head wsX3_head) := goodIn_app (goodIn_of _ (by decide +kernel)) ggX3_whole_X3_head
set_option maxRecDepth 20000 in
theorem ggX3_whole_X3_rowsOf : GoodIn wsX3_whole wsX3_rowsOf := goodIn_r _ [19, 20, 21, 22, 8, 23, 4, 10, 32, 33, 34, 35, 36, 37, 38, 39, 40, 41, 42, 43, 44] (by decide +kernel) (by decide +kernel)
set_option maxRecDepth 20000 in
theorem gX3_whole_X3_rowsOf : GoodIn wsX3_whole (wsV RX3 67 RX3 yX3_rowsOf wsX3_rowsOf) := goodIn_app (goodIn_of _ (by decide +kernel)) ggX3_whole_X3_rowsOf
set_option maxRecDepth 20000 in
theorem ggX3_whole_X3_close : GoodIn wsX3_whole wsX3_close := goodIn_r _ [27, 4, 10, 3, 28, 29, 8, 30, 31, 32, 33, 34, 35, 36, 37, 38, 39, 40, 41, 42, 43, 44] (by decide +kernel) (by decide +kernel)
set_option maxRecDepth 20000 in
theorem gX3_whole_X3_close : GoodIn wsX3_whole (wsV RX3 63 RX3 yX3_close wsX3_close) := goodIn_app (goodIn_of _ (by decide +kernel)) ggX3_whole_X3_close
theorem dX3_whole_0 : decode cX3_whole 0 = .ok (.aload_n 0, 1) := by decide +kernel
theorem dX3_whole_1 : decode cX3_whole 1 = .ok (.aload_n 0, 1) := by decide +kernel
theorem dX3_whole_2 : decode cX3_whole 2 = .ok (.getfield 16, 3) := by decide +kernel
theorem dX3_whole_5 : decode cX3_whole 5 = .ok (.ifCond .ne 7, 3) := by decide +kernel
theorem dX3_whole_8 : decode cX3_whole 8 = .ok (.iconst 1, 1) := by decide +kernel
theorem dX3_whole_9 : decode cX3_whole 9 = .ok (.goto 17, 3) := by decide +kernel
theorem dX3_whole_12 : decode cX3_whole 12 = .ok (.aload_n 0, 1) := by decide +kernel
theorem dX3_whole_13 : decode cX3_whole 13 = .ok (.bipush 8, 2) := by decide +kernel
theorem dX3_whole_15 : decode cX3_whole 15 = .ok (.invokevirtual 55, 3) := by decide +kernel
theorem dX3_whole_18 : decode cX3_whole 18 = .ok (.ifCond .eq 7, 3) := by decide +kernel
theorem dX3_whole_21 : decode cX3_whole 21 = .ok (.iconst 2, 1) := by decide +kernel
theorem dX3_whole_22 : decode cX3_whole 22 = .ok (.goto 4, 3) := by decide +kernel
theorem dX3_whole_25 : decode cX3_whole 25 = .ok (.iconst 0, 1) := by decide +kernel
theorem dX3_whole_26 : decode cX3_whole 26 = .ok (.putfield 33, 3) := by decide +kernel
theorem dX3_whole_29 : decode cX3_whole 29 = .ok (.aload_n 0, 1) := by decide +kernel
theorem dX3_whole_30 : decode cX3_whole 30 = .ok (.getfield 33, 3) := by decide +kernel
theorem dX3_whole_33 : decode cX3_whole 33 = .ok (.ifCond .eq 5, 3) := by decide +kernel
theorem dX3_whole_36 : decode cX3_whole 36 = .ok (.iconst 0, 1) := by decide +kernel
theorem dX3_whole_37 : decode cX3_whole 37 = .ok (.ireturn, 1) := by decide +kernel
theorem dX3_whole_38 : decode cX3_whole 38 = .ok (.aload_n 0, 1) := by decide +kernel
theorem dX3_whole_39 : decode cX3_whole 39 = .ok (.iconst 5, 1) := by decide +kernel
theorem dX3_whole_40 : decode cX3_whole 40 = .ok (.bipush 8, 2) := by decide +kernel
theorem dX3_whole_42 : decode cX3_whole 42 = .ok (.invokevirtual 59, 3) := by decide +kernel
theorem dX3_whole_45 : decode cX3_whole 45 = .ok (.istore_n 1, 1) := by decide +kernel
theorem dX3_whole_46 : decode cX3_whole 46 = .ok (.iconst 1, 1) := by decide +kernel
theorem dX3_whole_47 : decode cX3_whole 47 = .ok (.istore_n 2, 1) := by decide +kernel
theorem dX3_whole_48 : decode cX3_whole 48 = .ok (.iload_n 2, 1) := by decide +kernel
theorem dX3_whole_49 : decode cX3_whole 49 = .ok (.iconst 4, 1) := by decide +kernel
theorem dX3_whole_50 : decode cX3_whole 50 = .ok (.if_icmp .gt 52, 3) := by decide +kernel
theorem dX3_whole_53 : decode cX3_whole 53 = .ok (.aload_n 0, 1) := by decide +kernel
theorem dX3_whole_54 : decode cX3_whole 54 = .ok (.iload_n 2, 1) := by decide +kernel
theorem dX3_whole_55 : decode cX3_whole 55 = .ok (.aload_n 0, 1) := by decide +kernel
theorem dX3_whole_56 : decode cX3_whole 56 = .ok (.getfield 41, 3) := by decide +kernel
theorem dX3_whole_59 : decode cX3_whole 59 = .ok (.invokevirtual 67, 3) := by decide +kernel
theorem dX3_whole_62 : decode cX3_whole 62 = .ok (.istore_n 3, 1) := by decide +kernel
theorem dX3_whole_63 : decode cX3_whole 63 = .ok (.aload_n 0, 1) := by decide +kernel
theorem dX3_whole_64 : decode cX3_whole 64 = .ok (.getfield 20, 3) := by decide +kernel
theorem dX3_whole_67 : decode cX3_whole 67 = .ok (.iload_n 1, 1) := by decide +kernel
theorem dX3_whole_68 : decode cX3_whole 68 = .ok (.iconst 2, 1) := by decide +kernel
theorem dX3_whole_69 : decode cX3_whole 69 = .ok (.iload_n 2, 1) := by decide +kernel
theorem dX3_whole_70 : decode cX3_whole 70 = .ok (.imul, 1) := by decide +kernel
theorem dX3_whole_71 : decode cX3_whole 71 = .ok (.iadd, 1) := by decide +kernel
theorem dX3_whole_72 : decode cX3_whole 72 = .ok (.iconst 2, 1) := by decide +kernel
theorem dX3_whole_73 : decode cX3_whole 73 = .ok (.isub, 1) := by decide +kernel
theorem dX3_whole_74 : decode cX3_whole 74 = .ok (.iload_n 3, 1) := by decide +kernel
theorem dX3_whole_75 : decode cX3_whole 75 = .ok (.bipush 8, 2) := by decide +kernel
theorem dX3_whole_77 : decode cX3_whole 77 = .ok (.ishr, 1) := by decide +kernel
theorem dX3_whole_78 : decode cX3_whole 78 = .ok (.iastore, 1) := by decide +kernel
theorem dX3_whole_79 : decode cX3_whole 79 = .ok (.aload_n 0, 1) := by decide +kernel
theorem dX3_whole_80 : decode cX3_whole 80 = .ok (.getfield 20, 3) := by decide +kernel
theorem dX3_whole_83 : decode cX3_whole 83 = .ok (.iload_n 1, 1) := by decide +kernel
theorem dX3_whole_84 : decode cX3_whole 84 = .ok (.iconst 2, 1) := by decide +kernel
theorem dX3_whole_85 : decode cX3_whole 85 = .ok (.iload_n 2, 1) := by decide +kernel
theorem dX3_whole_86 : decode cX3_whole 86 = .ok (.imul, 1) := by decide +kernel
theorem dX3_whole_87 : decode cX3_whole 87 = .ok (.iadd, 1) := by decide +kernel
theorem dX3_whole_88 : decode cX3_whole 88 = .ok (.iconst 1, 1) := by decide +kernel
theorem dX3_whole_89 : decode cX3_whole 89 = .ok (.isub, 1) := by decide +kernel
theorem dX3_whole_90 : decode cX3_whole 90 = .ok (.iload_n 3, 1) := by decide +kernel
theorem dX3_whole_91 : decode cX3_whole 91 = .ok (.sipush 255, 3) := by decide +kernel
theorem dX3_whole_94 : decode cX3_whole 94 = .ok (.iand, 1) := by decide +kernel
theorem dX3_whole_95 : decode cX3_whole 95 = .ok (.iastore, 1) := by decide +kernel
theorem dX3_whole_96 : decode cX3_whole 96 = .ok (.iinc 2 1, 3) := by decide +kernel
theorem dX3_whole_99 : decode cX3_whole 99 = .ok (.goto (-51), 3) := by decide +kernel
theorem dX3_whole_102 : decode cX3_whole 102 = .ok (.aload_n 0, 1) := by decide +kernel
theorem dX3_whole_103 : decode cX3_whole 103 = .ok (.iload_n 1, 1) := by decide +kernel
theorem dX3_whole_104 : decode cX3_whole 104 = .ok (.bipush 8, 2) := by decide +kernel
theorem dX3_whole_106 : decode cX3_whole 106 = .ok (.iadd, 1) := by decide +kernel
theorem dX3_whole_107 : decode cX3_whole 107 = .ok (.invokevirtual 63, 3) := by decide +kernel
theorem dX3_whole_110 : decode cX3_whole 110 = .ok (.aload_n 0, 1) := by decide +kernel
theorem dX3_whole_111 : decode cX3_whole 111 = .ok (.getfield 41, 3) := by decide +kernel
theorem dX3_whole_114 : decode cX3_whole 114 = .ok (.ireturn, 1) := by decide +kernel
theorem dX3_inMemory_0 : decode cX3_inMemory 0 = .ok (.aload_n 0, 1) := by decide +kernel
theorem dX3_inMemory_1 : decode cX3_inMemory 1 = .ok (.getfield 23, 3) := by decide +kernel
theorem dX3_inMemory_4 : decode cX3_inMemory 4 = .ok (.aload_n 0, 1) := by decide +kernel
theorem dX3_inMemory_5 : decode cX3_inMemory 5 = .ok (.getfield 41, 3) := by decide +kernel
theorem dX3_inMemory_8 : decode cX3_inMemory 8 = .ok (.iaload, 1) := by decide +kernel
theorem dX3_inMemory_9 : decode cX3_inMemory 9 = .ok (.aload_n 0, 1) := by decide +kernel
theorem dX3_inMemory_10 : decode cX3_inMemory 10 = .ok (.getfield 23, 3) := by decide +kernel
theorem dX3_inMemory_13 : decode cX3_inMemory 13 = .ok (.aload_n 0, 1) := by decide +kernel
theorem dX3_inMemory_14 : decode cX3_inMemory 14 = .ok (.getfield 70, 3) := by decide +kernel
theorem dX3_inMemory_17 : decode cX3_inMemory 17 = .ok (.iaload, 1) := by decide +kernel
theorem dX3_inMemory_18 : decode cX3_inMemory 18 = .ok (.isub, 1) := by decide +kernel
theorem dX3_inMemory_19 : decode cX3_inMemory 19 = .ok (.ireturn, 1) := by decide +kernel
theorem dX3_sync_0 : decode cX3_sync 0 = .ok (.aload_n 0, 1) := by decide +kernel
theorem dX3_sync_1 : decode cX3_sync 1 = .ok (.aload_n 0, 1) := by decide +kernel
theorem dX3_sync_2 : decode cX3_sync 2 = .ok (.getfield 16, 3) := by decide +kernel
theorem dX3_sync_5 : decode cX3_sync 5 = .ok (.ifCond .eq 7, 3) := by decide +kernel
theorem dX3_sync_8 : decode cX3_sync 8 = .ok (.iconst 0, 1) := by decide +kernel
theorem dX3_sync_9 : decode cX3_sync 9 = .ok (.goto 4, 3) := by decide +kernel
theorem dX3_sync_12 : decode cX3_sync 12 = .ok (.iconst 1, 1) := by decide +kernel
theorem dX3_sync_13 : decode cX3_sync 13 = .ok (.putfield 33, 3) := by decide +kernel
theorem dX3_sync_16 : decode cX3_sync 16 = .ok (.aload_n 0, 1) := by decide +kernel
theorem dX3_sync_17 : decode cX3_sync 17 = .ok (.getfield 33, 3) := by decide +kernel
theorem dX3_sync_20 : decode cX3_sync 20 = .ok (.ifCond .eq 5, 3) := by decide +kernel
theorem dX3_sync_23 : decode cX3_sync 23 = .ok (.iconst 0, 1) := by decide +kernel
theorem dX3_sync_24 : decode cX3_sync 24 = .ok (.ireturn, 1) := by decide +kernel
theorem dX3_sync_25 : decode cX3_sync 25 = .ok (.aload_n 0, 1) := by decide +kernel
theorem dX3_sync_26 : decode cX3_sync 26 = .ok (.getfield 23, 3) := by decide +kernel
theorem dX3_sync_29 : decode cX3_sync 29 = .ok (.aload_n 0, 1) := by decide +kernel
theorem dX3_sync_30 : decode cX3_sync 30 = .ok (.getfield 70, 3) := by decide +kernel
theorem dX3_sync_33 : decode cX3_sync 33 = .ok (.iaload, 1) := by decide +kernel
theorem dX3_sync_34 : decode cX3_sync 34 = .ok (.istore_n 1, 1) := by decide +kernel
theorem dX3_sync_35 : decode cX3_sync 35 = .ok (.iload_n 1, 1) := by decide +kernel
theorem dX3_sync_36 : decode cX3_sync 36 = .ok (.aload_n 0, 1) := by decide +kernel
theorem dX3_sync_37 : decode cX3_sync 37 = .ok (.getfield 23, 3) := by decide +kernel
theorem dX3_sync_40 : decode cX3_sync 40 = .ok (.aload_n 0, 1) := by decide +kernel
theorem dX3_sync_41 : decode cX3_sync 41 = .ok (.getfield 41, 3) := by decide +kernel
theorem dX3_sync_44 : decode cX3_sync 44 = .ok (.iaload, 1) := by decide +kernel
theorem dX3_sync_45 : decode cX3_sync 45 = .ok (.if_icmp .ge 21, 3) := by decide +kernel
theorem dX3_sync_48 : decode cX3_sync 48 = .ok (.aload_n 0, 1) := by decide +kernel
theorem dX3_sync_49 : decode cX3_sync 49 = .ok (.getfield 7, 3) := by decide +kernel
theorem dX3_sync_52 : decode cX3_sync 52 = .ok (.iload_n 1, 1) := by decide +kernel
theorem dX3_sync_53 : decode cX3_sync 53 = .ok (.aload_n 0, 1) := by decide +kernel
theorem dX3_sync_54 : decode cX3_sync 54 = .ok (.getfield 20, 3) := by decide +kernel
theorem dX3_sync_57 : decode cX3_sync 57 = .ok (.iload_n 1, 1) := by decide +kernel
theorem dX3_sync_58 : decode cX3_sync 58 = .ok (.iaload, 1) := by decide +kernel
theorem dX3_sync_59 : decode cX3_sync 59 = .ok (.iastore, 1) := by decide +kernel
theorem dX3_sync_60 : decode cX3_sync 60 = .ok (.iinc 1 1, 3) := by decide +kernel
theorem dX3_sync_63 : decode cX3_sync 63 = .ok (.goto (-28), 3) := by decide +kernel
theorem dX3_sync_66 : decode cX3_sync 66 = .ok (.aload_n 0, 1) := by decide +kernel
theorem dX3_sync_67 : decode cX3_sync 67 = .ok (.getfield 41, 3) := by decide +kernel
theorem dX3_sync_70 : decode cX3_sync 70 = .ok (.aload_n 0, 1) := by decide +kernel
theorem dX3_sync_71 : decode cX3_sync 71 = .ok (.getfield 70, 3) := by decide +kernel
theorem dX3_sync_74 : decode cX3_sync 74 = .ok (.isub, 1) := by decide +kernel
theorem dX3_sync_75 : decode cX3_sync 75 = .ok (.istore_n 1, 1) := by decide +kernel
theorem dX3_sync_76 : decode cX3_sync 76 = .ok (.aload_n 0, 1) := by decide +kernel
theorem dX3_sync_77 : decode cX3_sync 77 = .ok (.aload_n 0, 1) := by decide +kernel
theorem dX3_sync_78 : decode cX3_sync 78 = .ok (.getfield 41, 3) := by decide +kernel
theorem dX3_sync_81 : decode cX3_sync 81 = .ok (.putfield 70, 3) := by decide +kernel
theorem dX3_sync_84 : decode cX3_sync 84 = .ok (.iload_n 1, 1) := by decide +kernel
theorem dX3_sync_85 : decode cX3_sync 85 = .ok (.ireturn, 1) := by decide +kernel
set_option maxRecDepth 20000 in
theorem ggX3_cut_X3_within : GoodIn wsX3_cut wsX3_within := goodIn_r _ [12] (by decide +kernel) (by decide +kernel)
set_option maxRecDepth 20000 in
theorem gX3_cut_X3_within : GoodIn wsX3_cut (va_wsS RX3 48 yX3_within wsX3_within) := goodIn_app (goodIn_of _ (by decide +kernel)) ggX3_cut_X3_within
set_option maxRecDepth 20000 in
theorem ggX3_cut_X3_inMemory : GoodIn wsX3_cut wsX3_inMemory := goodIn_r _ [16, 3, 7, 4, 17, 18, 19, 20, 21, 22, 23, 24, 25, 26, 27, 28, 29] (by decide +kernel) (by decide +kernel)
set_option maxRecDepth 20000 in
theorem gX3_cut_X3_inMemory : GoodIn wsX3_cut (wsV RX3 73 RX3 yX3_inMemory wsX3_inMemory) := goodIn_app (goodIn_of _ (by decide +kernel)) ggX3_cut_X3_inMemory
theorem dX3_cut_0 : decode cX3_cut 0 = .ok (.aload_n 0, 1) := by decide +kernel
theorem dX3_cut_1 : decode cX3_cut 1 = .ok (.iload_n 2, 1) := by decide +kernel
theorem dX3_cut_2 : decode cX3_cut 2 = .ok (.iconst 0, 1) := by decide +kernel
theorem dX3_cut_3 : decode cX3_cut 3 = .ok (.sipush 255, 3) := by decide +kernel
theorem dX3_cut_6 : decode cX3_cut 6 = .ok (.invokestatic 48, 3) := by decide +kernel
theorem dX3_cut_9 : decode cX3_cut 9 = .ok (.ifCond .eq 26, 3) := by decide +kernel
theorem dX3_cut_12 : decode cX3_cut 12 = .ok (.iload_n 1, 1) := by decide +kernel
theorem dX3_cut_13 : decode cX3_cut 13 = .ok (.iconst 0, 1) := by decide +kernel
theorem dX3_cut_14 : decode cX3_cut 14 = .ok (.aload_n 0, 1) := by decide +kernel
theorem dX3_cut_15 : decode cX3_cut 15 = .ok (.getfield 16, 3) := by decide +kernel
theorem dX3_cut_18 : decode cX3_cut 18 = .ok (.ifCond .eq 10, 3) := by decide +kernel
theorem dX3_cut_21 : decode cX3_cut 21 = .ok (.aload_n 0, 1) := by decide +kernel
theorem dX3_cut_22 : decode cX3_cut 22 = .ok (.invokevirtual 73, 3) := by decide +kernel
theorem dX3_cut_25 : decode cX3_cut 25 = .ok (.goto 4, 3) := by decide +kernel
theorem dX3_cut_28 : decode cX3_cut 28 = .ok (.iconst 0, 1) := by decide +kernel
theorem dX3_cut_29 : decode cX3_cut 29 = .ok (.invokestatic 48, 3) := by decide +kernel
theorem dX3_cut_32 : decode cX3_cut 32 = .ok (.ifCond .ne 7, 3) := by decide +kernel
theorem dX3_cut_35 : decode cX3_cut 35 = .ok (.iconst 1, 1) := by decide +kernel
theorem dX3_cut_36 : decode cX3_cut 36 = .ok (.goto 15, 3) := by decide +kernel
theorem dX3_cut_39 : decode cX3_cut 39 = .ok (.aload_n 0, 1) := by decide +kernel
theorem dX3_cut_40 : decode cX3_cut 40 = .ok (.getfield 16, 3) := by decide +kernel
theorem dX3_cut_43 : decode cX3_cut 43 = .ok (.ifCond .ne 7, 3) := by decide +kernel
theorem dX3_cut_46 : decode cX3_cut 46 = .ok (.iconst 2, 1) := by decide +kernel
theorem dX3_cut_47 : decode cX3_cut 47 = .ok (.goto 4, 3) := by decide +kernel
theorem dX3_cut_50 : decode cX3_cut 50 = .ok (.iconst 0, 1) := by decide +kernel
theorem dX3_cut_51 : decode cX3_cut 51 = .ok (.putfield 33, 3) := by decide +kernel
theorem dX3_cut_54 : decode cX3_cut 54 = .ok (.aload_n 0, 1) := by decide +kernel
theorem dX3_cut_55 : decode cX3_cut 55 = .ok (.getfield 33, 3) := by decide +kernel
theorem dX3_cut_58 : decode cX3_cut 58 = .ok (.ifCond .eq 4, 3) := by decide +kernel
theorem dX3_cut_61 : decode cX3_cut 61 = .ok (.return_, 1) := by decide +kernel
theorem dX3_cut_62 : decode cX3_cut 62 = .ok (.aload_n 0, 1) := by decide +kernel
theorem dX3_cut_63 : decode cX3_cut 63 = .ok (.getfield 23, 3) := by decide +kernel
theorem dX3_cut_66 : decode cX3_cut 66 = .ok (.aload_n 0, 1) := by decide +kernel
theorem dX3_cut_67 : decode cX3_cut 67 = .ok (.getfield 70, 3) := by decide +kernel
theorem dX3_cut_70 : decode cX3_cut 70 = .ok (.iaload, 1) := by decide +kernel
theorem dX3_cut_71 : decode cX3_cut 71 = .ok (.istore_n 3, 1) := by decide +kernel
theorem dX3_cut_72 : decode cX3_cut 72 = .ok (.iload_n 3, 1) := by decide +kernel
theorem dX3_cut_73 : decode cX3_cut 73 = .ok (.istore 4, 2) := by decide +kernel
theorem dX3_cut_75 : decode cX3_cut 75 = .ok (.iload 4, 2) := by decide +kernel
theorem dX3_cut_77 : decode cX3_cut 77 = .ok (.iload_n 3, 1) := by decide +kernel
theorem dX3_cut_78 : decode cX3_cut 78 = .ok (.iload_n 1, 1) := by decide +kernel
theorem dX3_cut_79 : decode cX3_cut 79 = .ok (.iadd, 1) := by decide +kernel
theorem dX3_cut_80 : decode cX3_cut 80 = .ok (.if_icmp .ge 23, 3) := by decide +kernel
theorem dX3_cut_83 : decode cX3_cut 83 = .ok (.aload_n 0, 1) := by decide +kernel
theorem dX3_cut_84 : decode cX3_cut 84 = .ok (.getfield 7, 3) := by decide +kernel
theorem dX3_cut_87 : decode cX3_cut 87 = .ok (.iload 4, 2) := by decide +kernel
theorem dX3_cut_89 : decode cX3_cut 89 = .ok (.aload_n 0, 1) := by decide +kernel
theorem dX3_cut_90 : decode cX3_cut 90 = .ok (.getfield 20, 3) := by decide +kernel
theorem dX3_cut_93 : decode cX3_cut 93 = .ok (.iload 4, 2) := by decide +kernel
theorem dX3_cut_95 : decode cX3_cut 95 = .ok (.iaload, 1) := by decide +kernel
theorem dX3_cut_96 : decode cX3_cut 96 = .ok (.iastore, 1) := by decide +kernel
theorem dX3_cut_97 : decode cX3_cut 97 = .ok (.iinc 4 1, 3) := by decide +kernel
theorem dX3_cut_100 : decode cX3_cut 100 = .ok (.goto (-25), 3) := by decide +kernel
theorem dX3_cut_103 : decode cX3_cut 103 = .ok (.iload_n 1, 1) := by decide +kernel
theorem dX3_cut_104 : decode cX3_cut 104 = .ok (.aload_n 0, 1) := by decide +kernel
theorem dX3_cut_105 : decode cX3_cut 105 = .ok (.invokevirtual 73, 3) := by decide +kernel
theorem dX3_cut_108 : decode cX3_cut 108 = .ok (.if_icmp .ge 25, 3) := by decide +kernel
theorem dX3_cut_111 : decode cX3_cut 111 = .ok (.iload_n 2, 1) := by decide +kernel
theorem dX3_cut_112 : decode cX3_cut 112 = .ok (.ifCond .eq 21, 3) := by decide +kernel
theorem dX3_cut_115 : decode cX3_cut 115 = .ok (.aload_n 0, 1) := by decide +kernel
theorem dX3_cut_116 : decode cX3_cut 116 = .ok (.getfield 7, 3) := by decide +kernel
theorem dX3_cut_119 : decode cX3_cut 119 = .ok (.iload_n 3, 1) := by decide +kernel
theorem dX3_cut_120 : decode cX3_cut 120 = .ok (.iload_n 1, 1) := by decide +kernel
theorem dX3_cut_121 : decode cX3_cut 121 = .ok (.iadd, 1) := by decide +kernel
theorem dX3_cut_122 : decode cX3_cut 122 = .ok (.aload_n 0, 1) := by decide +kernel
theorem dX3_cut_123 : decode cX3_cut 123 = .ok (.getfield 20, 3) := by decide +kernel
theorem dX3_cut_126 : decode cX3_cut 126 = .ok (.iload_n 3, 1) := by decide +kernel
theorem dX3_cut_127 : decode cX3_cut 127 = .ok (.iload_n 1, 1) := by decide +kernel
theorem dX3_cut_128 : decode cX3_cut 128 = .ok (.iadd, 1) := by decide +kernel
theorem dX3_cut_129 : decode cX3_cut 129 = .ok (.iaload, 1) := by decide +kernel
theorem dX3_cut_130 : decode cX3_cut 130 = .ok (.iload_n 2, 1) := by decide +kernel
theorem dX3_cut_131 : decode cX3_cut 131 = .ok (.ixor, 1) := by decide +kernel
theorem dX3_cut_132 : decode cX3_cut 132 = .ok (.iastore, 1) := by decide +kernel
theorem dX3_cut_133 : decode cX3_cut 133 = .ok (.aload_n 0, 1) := by decide +kernel
theorem dX3_cut_134 : decode cX3_cut 134 = .ok (.aload_n 0, 1) := by decide +kernel
theorem dX3_cut_135 : decode cX3_cut 135 = .ok (.getfield 70, 3) := by decide +kernel
theorem dX3_cut_138 : decode cX3_cut 138 = .ok (.putfield 41, 3) := by decide +kernel
theorem dX3_cut_141 : decode cX3_cut 141 = .ok (.aload_n 0, 1) := by decide +kernel
theorem dX3_cut_142 : decode cX3_cut 142 = .ok (.iconst 0, 1) := by decide +kernel
theorem dX3_cut_143 : decode cX3_cut 143 = .ok (.putfield 52, 3) := by decide +kernel
theorem dX3_cut_146 : decode cX3_cut 146 = .ok (.aload_n 0, 1) := by decide +kernel
theorem dX3_cut_147 : decode cX3_cut 147 = .ok (.iconst 0, 1) := by decide +kernel
theorem dX3_cut_148 : decode cX3_cut 148 = .ok (.putfield 16, 3) := by decide +kernel
theorem dX3_cut_151 : decode cX3_cut 151 = .ok (.return_, 1) := by decide +kernel
set_option maxRecDepth 20000 in
theorem ggX3_look_X3_within : GoodIn wsX3_look wsX3_within := goodIn_r _ [7] (by decide +kernel) (by decide +kernel)
set_option maxRecDepth 20000 in
theorem gX3_look_X3_within : GoodIn wsX3_look (va_wsS RX3 48 yX3_within wsX3_within) := goodIn_app (goodIn_of _ (by decide +kernel)) ggX3_look_X3_within
set_option maxRecDepth 20000 in
theorem ggX3_look_X3_sumOf : GoodIn wsX3_look wsX3_sumOf := goodIn_r _ [10, 11] (by decide +kernel) (by decide +kernel)
set_option maxRecDepth 20000 in
theorem gX3_look_X3_sumOf : GoodIn wsX3_look (va_wsS RX3 44 yX3_sumOf wsX3_sumOf) := goodIn_app (goodIn_of _ (by decide +kernel)) ggX3_look_X3_sumOf
set_option maxRecDepth 20000 in
theorem ggX3_look_X3_countsRight : GoodIn wsX3_look wsX3_countsRight := goodIn_r _ [15, 2, 3, 16, 17, 18, 6, 19, 20, 21, 22, 23, 24, 25, 26, 27, 28, 29, 30, 31, 32, 33, 34, 35, 36, 37, 38] (by decide +kernel) (by decide +kernel)
set_option maxRecDepth 20000 in
theorem gX3_look_X3_countsRight : GoodIn wsX3_look (wsV RX3 77 RX3 yX3_countsRight wsX3_countsRight) := goodIn_app (goodIn_of _ (by decide +kernel)) ggX3_look_X3_countsRight
theorem dX3_look_0 : decode cX3_look 0 = .ok (.iconst 1, 1) := by decide +kernel
theorem dX3_look_1 : decode cX3_look 1 = .ok (.istore_n 2, 1) := by decide +kernel
theorem dX3_look_2 : decode cX3_look 2 = .ok (.iload_n 1, 1) := by decide +kernel
theorem dX3_look_3 : decode cX3_look 3 = .ok (.istore_n 3, 1) := by decide +kernel
theorem dX3_look_4 : decode cX3_look 4 = .ok (.iload_n 3, 1) := by decide +kernel
theorem dX3_look_5 : decode cX3_look 5 = .ok (.aload_n 0, 1) := by decide +kernel
theorem dX3_look_6 : decode cX3_look 6 = .ok (.getfield 29, 3) := by decide +kernel
theorem dX3_look_9 : decode cX3_look 9 = .ok (.if_icmp .ge 20, 3) := by decide +kernel
theorem dX3_look_12 : decode cX3_look 12 = .ok (.aload_n 0, 1) := by decide +kernel
theorem dX3_look_13 : decode cX3_look 13 = .ok (.getfield 7, 3) := by decide +kernel
theorem dX3_look_16 : decode cX3_look 16 = .ok (.iload_n 3, 1) := by decide +kernel
theorem dX3_look_17 : decode cX3_look 17 = .ok (.iaload, 1) := by decide +kernel
theorem dX3_look_18 : decode cX3_look 18 = .ok (.ifCond .eq 5, 3) := by decide +kernel
theorem dX3_look_21 : decode cX3_look 21 = .ok (.iconst 0, 1) := by decide +kernel
theorem dX3_look_22 : decode cX3_look 22 = .ok (.istore_n 2, 1) := by decide +kernel
theorem dX3_look_23 : decode cX3_look 23 = .ok (.iinc 3 1, 3) := by decide +kernel
theorem dX3_look_26 : decode cX3_look 26 = .ok (.goto (-22), 3) := by decide +kernel
theorem dX3_look_29 : decode cX3_look 29 = .ok (.iload_n 2, 1) := by decide +kernel
theorem dX3_look_30 : decode cX3_look 30 = .ok (.ifCond .eq 6, 3) := by decide +kernel
theorem dX3_look_33 : decode cX3_look 33 = .ok (.bipush 7, 2) := by decide +kernel
theorem dX3_look_35 : decode cX3_look 35 = .ok (.ireturn, 1) := by decide +kernel
theorem dX3_look_36 : decode cX3_look 36 = .ok (.aload_n 0, 1) := by decide +kernel
theorem dX3_look_37 : decode cX3_look 37 = .ok (.getfield 7, 3) := by decide +kernel
theorem dX3_look_40 : decode cX3_look 40 = .ok (.iload_n 1, 1) := by decide +kernel
theorem dX3_look_41 : decode cX3_look 41 = .ok (.iaload, 1) := by decide +kernel
theorem dX3_look_42 : decode cX3_look 42 = .ok (.bipush 90, 2) := by decide +kernel
theorem dX3_look_44 : decode cX3_look 44 = .ok (.if_icmp .eq 5, 3) := by decide +kernel
theorem dX3_look_47 : decode cX3_look 47 = .ok (.iconst 1, 1) := by decide +kernel
theorem dX3_look_48 : decode cX3_look 48 = .ok (.ireturn, 1) := by decide +kernel
theorem dX3_look_49 : decode cX3_look 49 = .ok (.iload_n 1, 1) := by decide +kernel
theorem dX3_look_50 : decode cX3_look 50 = .ok (.iconst 5, 1) := by decide +kernel
theorem dX3_look_51 : decode cX3_look 51 = .ok (.iadd, 1) := by decide +kernel
theorem dX3_look_52 : decode cX3_look 52 = .ok (.aload_n 0, 1) := by decide +kernel
theorem dX3_look_53 : decode cX3_look 53 = .ok (.getfield 29, 3) := by decide +kernel
theorem dX3_look_56 : decode cX3_look 56 = .ok (.if_icmp .le 5, 3) := by decide +kernel
theorem dX3_look_59 : decode cX3_look 59 = .ok (.iconst 4, 1) := by decide +kernel
theorem dX3_look_60 : decode cX3_look 60 = .ok (.ireturn, 1) := by decide +kernel
theorem dX3_look_61 : decode cX3_look 61 = .ok (.aload_n 0, 1) := by decide +kernel
theorem dX3_look_62 : decode cX3_look 62 = .ok (.getfield 7, 3) := by decide +kernel
theorem dX3_look_65 : decode cX3_look 65 = .ok (.iload_n 1, 1) := by decide +kernel
theorem dX3_look_66 : decode cX3_look 66 = .ok (.iconst 1, 1) := by decide +kernel
theorem dX3_look_67 : decode cX3_look 67 = .ok (.iadd, 1) := by decide +kernel
theorem dX3_look_68 : decode cX3_look 68 = .ok (.iaload, 1) := by decide +kernel
theorem dX3_look_69 : decode cX3_look 69 = .ok (.iconst 1, 1) := by decide +kernel
theorem dX3_look_70 : decode cX3_look 70 = .ok (.iconst 5, 1) := by decide +kernel
theorem dX3_look_71 : decode cX3_look 71 = .ok (.invokestatic 48, 3) := by decide +kernel
theorem dX3_look_74 : decode cX3_look 74 = .ok (.ifCond .ne 5, 3) := by decide +kernel
theorem dX3_look_77 : decode cX3_look 77 = .ok (.iconst 2, 1) := by decide +kernel
theorem dX3_look_78 : decode cX3_look 78 = .ok (.ireturn, 1) := by decide +kernel
theorem dX3_look_79 : decode cX3_look 79 = .ok (.sipush 256, 3) := by decide +kernel
theorem dX3_look_82 : decode cX3_look 82 = .ok (.aload_n 0, 1) := by decide +kernel
theorem dX3_look_83 : decode cX3_look 83 = .ok (.getfield 7, 3) := by decide +kernel
theorem dX3_look_86 : decode cX3_look 86 = .ok (.iload_n 1, 1) := by decide +kernel
theorem dX3_look_87 : decode cX3_look 87 = .ok (.iconst 2, 1) := by decide +kernel
theorem dX3_look_88 : decode cX3_look 88 = .ok (.iadd, 1) := by decide +kernel
theorem dX3_look_89 : decode cX3_look 89 = .ok (.iaload, 1) := by decide +kernel
theorem dX3_look_90 : decode cX3_look 90 = .ok (.imul, 1) := by decide +kernel
theorem dX3_look_91 : decode cX3_look 91 = .ok (.aload_n 0, 1) := by decide +kernel
theorem dX3_look_92 : decode cX3_look 92 = .ok (.getfield 7, 3) := by decide +kernel
theorem dX3_look_95 : decode cX3_look 95 = .ok (.iload_n 1, 1) := by decide +kernel
theorem dX3_look_96 : decode cX3_look 96 = .ok (.iconst 3, 1) := by decide +kernel
theorem dX3_look_97 : decode cX3_look 97 = .ok (.iadd, 1) := by decide +kernel
theorem dX3_look_98 : decode cX3_look 98 = .ok (.iaload, 1) := by decide +kernel
theorem dX3_look_99 : decode cX3_look 99 = .ok (.iadd, 1) := by decide +kernel
theorem dX3_look_100 : decode cX3_look 100 = .ok (.aload_n 0, 1) := by decide +kernel
theorem dX3_look_101 : decode cX3_look 101 = .ok (.getfield 41, 3) := by decide +kernel
theorem dX3_look_104 : decode cX3_look 104 = .ok (.iconst 1, 1) := by decide +kernel
theorem dX3_look_105 : decode cX3_look 105 = .ok (.iadd, 1) := by decide +kernel
theorem dX3_look_106 : decode cX3_look 106 = .ok (.if_icmp .eq 5, 3) := by decide +kernel
theorem dX3_look_109 : decode cX3_look 109 = .ok (.iconst 3, 1) := by decide +kernel
theorem dX3_look_110 : decode cX3_look 110 = .ok (.ireturn, 1) := by decide +kernel
theorem dX3_look_111 : decode cX3_look 111 = .ok (.aload_n 0, 1) := by decide +kernel
theorem dX3_look_112 : decode cX3_look 112 = .ok (.getfield 7, 3) := by decide +kernel
theorem dX3_look_115 : decode cX3_look 115 = .ok (.iload_n 1, 1) := by decide +kernel
theorem dX3_look_116 : decode cX3_look 116 = .ok (.iconst 4, 1) := by decide +kernel
theorem dX3_look_117 : decode cX3_look 117 = .ok (.iadd, 1) := by decide +kernel
theorem dX3_look_118 : decode cX3_look 118 = .ok (.iaload, 1) := by decide +kernel
theorem dX3_look_119 : decode cX3_look 119 = .ok (.istore_n 3, 1) := by decide +kernel
theorem dX3_look_120 : decode cX3_look 120 = .ok (.iload_n 3, 1) := by decide +kernel
theorem dX3_look_121 : decode cX3_look 121 = .ok (.bipush 20, 2) := by decide +kernel
theorem dX3_look_123 : decode cX3_look 123 = .ok (.if_icmp .gt 16, 3) := by decide +kernel
theorem dX3_look_126 : decode cX3_look 126 = .ok (.iload_n 1, 1) := by decide +kernel
theorem dX3_look_127 : decode cX3_look 127 = .ok (.bipush 9, 2) := by decide +kernel
theorem dX3_look_129 : decode cX3_look 129 = .ok (.iadd, 1) := by decide +kernel
theorem dX3_look_130 : decode cX3_look 130 = .ok (.iload_n 3, 1) := by decide +kernel
theorem dX3_look_131 : decode cX3_look 131 = .ok (.iadd, 1) := by decide +kernel
theorem dX3_look_132 : decode cX3_look 132 = .ok (.aload_n 0, 1) := by decide +kernel
theorem dX3_look_133 : decode cX3_look 133 = .ok (.getfield 29, 3) := by decide +kernel
theorem dX3_look_136 : decode cX3_look 136 = .ok (.if_icmp .le 5, 3) := by decide +kernel
theorem dX3_look_139 : decode cX3_look 139 = .ok (.iconst 4, 1) := by decide +kernel
theorem dX3_look_140 : decode cX3_look 140 = .ok (.ireturn, 1) := by decide +kernel
theorem dX3_look_141 : decode cX3_look 141 = .ok (.aload_n 0, 1) := by decide +kernel
theorem dX3_look_142 : decode cX3_look 142 = .ok (.getfield 7, 3) := by decide +kernel
theorem dX3_look_145 : decode cX3_look 145 = .ok (.iload_n 1, 1) := by decide +kernel
theorem dX3_look_146 : decode cX3_look 146 = .ok (.iconst 1, 1) := by decide +kernel
theorem dX3_look_147 : decode cX3_look 147 = .ok (.iadd, 1) := by decide +kernel
theorem dX3_look_148 : decode cX3_look 148 = .ok (.iload_n 1, 1) := by decide +kernel
theorem dX3_look_149 : decode cX3_look 149 = .ok (.iconst 5, 1) := by decide +kernel
theorem dX3_look_150 : decode cX3_look 150 = .ok (.iadd, 1) := by decide +kernel
theorem dX3_look_151 : decode cX3_look 151 = .ok (.iload_n 3, 1) := by decide +kernel
theorem dX3_look_152 : decode cX3_look 152 = .ok (.iadd, 1) := by decide +kernel
theorem dX3_look_153 : decode cX3_look 153 = .ok (.invokestatic 44, 3) := by decide +kernel
theorem dX3_look_156 : decode cX3_look 156 = .ok (.istore 4, 2) := by decide +kernel
theorem dX3_look_158 : decode cX3_look 158 = .ok (.iconst 0, 1) := by decide +kernel
theorem dX3_look_159 : decode cX3_look 159 = .ok (.istore 5, 2) := by decide +kernel
theorem dX3_look_161 : decode cX3_look 161 = .ok (.iload 5, 2) := by decide +kernel
theorem dX3_look_163 : decode cX3_look 163 = .ok (.iconst 4, 1) := by decide +kernel
theorem dX3_look_164 : decode cX3_look 164 = .ok (.if_icmp .ge 42, 3) := by decide +kernel
theorem dX3_look_167 : decode cX3_look 167 = .ok (.aload_n 0, 1) := by decide +kernel
theorem dX3_look_168 : decode cX3_look 168 = .ok (.getfield 7, 3) := by decide +kernel
theorem dX3_look_171 : decode cX3_look 171 = .ok (.iload_n 1, 1) := by decide +kernel
theorem dX3_look_172 : decode cX3_look 172 = .ok (.iconst 5, 1) := by decide +kernel
theorem dX3_look_173 : decode cX3_look 173 = .ok (.iadd, 1) := by decide +kernel
theorem dX3_look_174 : decode cX3_look 174 = .ok (.iload_n 3, 1) := by decide +kernel
theorem dX3_look_175 : decode cX3_look 175 = .ok (.iadd, 1) := by decide +kernel
theorem dX3_look_176 : decode cX3_look 176 = .ok (.iload 5, 2) := by decide +kernel
theorem dX3_look_178 : decode cX3_look 178 = .ok (.iadd, 1) := by decide +kernel
theorem dX3_look_179 : decode cX3_look 179 = .ok (.iaload, 1) := by decide +kernel
theorem dX3_look_180 : decode cX3_look 180 = .ok (.iload 4, 2) := by decide +kernel
theorem dX3_look_182 : decode cX3_look 182 = .ok (.bipush 24, 2) := by decide +kernel
theorem dX3_look_184 : decode cX3_look 184 = .ok (.bipush 8, 2) := by decide +kernel
theorem dX3_look_186 : decode cX3_look 186 = .ok (.iload 5, 2) := by decide +kernel
theorem dX3_look_188 : decode cX3_look 188 = .ok (.imul, 1) := by decide +kernel
theorem dX3_look_189 : decode cX3_look 189 = .ok (.isub, 1) := by decide +kernel
theorem dX3_look_190 : decode cX3_look 190 = .ok (.iushr, 1) := by decide +kernel
theorem dX3_look_191 : decode cX3_look 191 = .ok (.sipush 255, 3) := by decide +kernel
theorem dX3_look_194 : decode cX3_look 194 = .ok (.iand, 1) := by decide +kernel
theorem dX3_look_195 : decode cX3_look 195 = .ok (.if_icmp .eq 5, 3) := by decide +kernel
theorem dX3_look_198 : decode cX3_look 198 = .ok (.iconst 5, 1) := by decide +kernel
theorem dX3_look_199 : decode cX3_look 199 = .ok (.ireturn, 1) := by decide +kernel
theorem dX3_look_200 : decode cX3_look 200 = .ok (.iinc 5 1, 3) := by decide +kernel
theorem dX3_look_203 : decode cX3_look 203 = .ok (.goto (-42), 3) := by decide +kernel
theorem dX3_look_206 : decode cX3_look 206 = .ok (.aload_n 0, 1) := by decide +kernel
theorem dX3_look_207 : decode cX3_look 207 = .ok (.getfield 7, 3) := by decide +kernel
theorem dX3_look_210 : decode cX3_look 210 = .ok (.iload_n 1, 1) := by decide +kernel
theorem dX3_look_211 : decode cX3_look 211 = .ok (.iconst 1, 1) := by decide +kernel
theorem dX3_look_212 : decode cX3_look 212 = .ok (.iadd, 1) := by decide +kernel
theorem dX3_look_213 : decode cX3_look 213 = .ok (.iaload, 1) := by decide +kernel
theorem dX3_look_214 : decode cX3_look 214 = .ok (.iconst 5, 1) := by decide +kernel
theorem dX3_look_215 : decode cX3_look 215 = .ok (.if_icmp .ne 19, 3) := by decide +kernel
theorem dX3_look_218 : decode cX3_look 218 = .ok (.aload_n 0, 1) := by decide +kernel
theorem dX3_look_219 : decode cX3_look 219 = .ok (.iload_n 1, 1) := by decide +kernel
theorem dX3_look_220 : decode cX3_look 220 = .ok (.iconst 5, 1) := by decide +kernel
theorem dX3_look_221 : decode cX3_look 221 = .ok (.iadd, 1) := by decide +kernel
theorem dX3_look_222 : decode cX3_look 222 = .ok (.iload_n 3, 1) := by decide +kernel
theorem dX3_look_223 : decode cX3_look 223 = .ok (.invokevirtual 77, 3) := by decide +kernel
theorem dX3_look_226 : decode cX3_look 226 = .ok (.ifCond .ne 8, 3) := by decide +kernel
theorem dX3_look_229 : decode cX3_look 229 = .ok (.bipush 6, 2) := by decide +kernel
theorem dX3_look_231 : decode cX3_look 231 = .ok (.goto 4, 3) := by decide +kernel
theorem dX3_look_234 : decode cX3_look 234 = .ok (.iconst 0, 1) := by decide +kernel
theorem dX3_look_235 : decode cX3_look 235 = .ok (.ireturn, 1) := by decide +kernel
set_option maxRecDepth 20000 in
theorem ggX3_countsRight_X3_rowsOf : GoodIn wsX3_countsRight wsX3_rowsOf := goodIn_r _ [7, 8, 9, 10, 6, 11, 12, 13, 14, 15, 16, 17, 18, 19, 20, 21, 22, 23, 24, 25, 26] (by decide +kernel) (by decide +kernel)
set_option maxRecDepth 20000 in
theorem gX3_countsRight_X3_rowsOf : GoodIn wsX3_countsRight (wsV RX3 67 RX3 yX3_rowsOf wsX3_rowsOf) := goodIn_app (goodIn_of _ (by decide +kernel)) ggX3_countsRight_X3_rowsOf
theorem dX3_countsRight_0 : decode cX3_countsRight 0 = .ok (.iload_n 2, 1) := by decide +kernel
theorem dX3_countsRight_1 : decode cX3_countsRight 1 = .ok (.bipush 8, 2) := by decide +kernel
theorem dX3_countsRight_3 : decode cX3_countsRight 3 = .ok (.if_icmp .eq 5, 3) := by decide +kernel
theorem dX3_countsRight_6 : decode cX3_countsRight 6 = .ok (.iconst 0, 1) := by decide +kernel
theorem dX3_countsRight_7 : decode cX3_countsRight 7 = .ok (.ireturn, 1) := by decide +kernel
theorem dX3_countsRight_8 : decode cX3_countsRight 8 = .ok (.iconst 1, 1) := by decide +kernel
theorem dX3_countsRight_9 : decode cX3_countsRight 9 = .ok (.istore_n 3, 1) := by decide +kernel
theorem dX3_countsRight_10 : decode cX3_countsRight 10 = .ok (.iload_n 3, 1) := by decide +kernel
theorem dX3_countsRight_11 : decode cX3_countsRight 11 = .ok (.iconst 4, 1) := by decide +kernel
theorem dX3_countsRight_12 : decode cX3_countsRight 12 = .ok (.if_icmp .gt 52, 3) := by decide +kernel
theorem dX3_countsRight_15 : decode cX3_countsRight 15 = .ok (.sipush 256, 3) := by decide +kernel
theorem dX3_countsRight_18 : decode cX3_countsRight 18 = .ok (.aload_n 0, 1) := by decide +kernel
theorem dX3_countsRight_19 : decode cX3_countsRight 19 = .ok (.getfield 7, 3) := by decide +kernel
theorem dX3_countsRight_22 : decode cX3_countsRight 22 = .ok (.iload_n 1, 1) := by decide +kernel
theorem dX3_countsRight_23 : decode cX3_countsRight 23 = .ok (.iconst 2, 1) := by decide +kernel
theorem dX3_countsRight_24 : decode cX3_countsRight 24 = .ok (.iload_n 3, 1) := by decide +kernel
theorem dX3_countsRight_25 : decode cX3_countsRight 25 = .ok (.imul, 1) := by decide +kernel
theorem dX3_countsRight_26 : decode cX3_countsRight 26 = .ok (.iadd, 1) := by decide +kernel
theorem dX3_countsRight_27 : decode cX3_countsRight 27 = .ok (.iconst 2, 1) := by decide +kernel
theorem dX3_countsRight_28 : decode cX3_countsRight 28 = .ok (.isub, 1) := by decide +kernel
theorem dX3_countsRight_29 : decode cX3_countsRight 29 = .ok (.iaload, 1) := by decide +kernel
theorem dX3_countsRight_30 : decode cX3_countsRight 30 = .ok (.imul, 1) := by decide +kernel
theorem dX3_countsRight_31 : decode cX3_countsRight 31 = .ok (.aload_n 0, 1) := by decide +kernel
theorem dX3_countsRight_32 : decode cX3_countsRight 32 = .ok (.getfield 7, 3) := by decide +kernel
theorem dX3_countsRight_35 : decode cX3_countsRight 35 = .ok (.iload_n 1, 1) := by decide +kernel
theorem dX3_countsRight_36 : decode cX3_countsRight 36 = .ok (.iconst 2, 1) := by decide +kernel
theorem dX3_countsRight_37 : decode cX3_countsRight 37 = .ok (.iload_n 3, 1) := by decide +kernel
theorem dX3_countsRight_38 : decode cX3_countsRight 38 = .ok (.imul, 1) := by decide +kernel
theorem dX3_countsRight_39 : decode cX3_countsRight 39 = .ok (.iadd, 1) := by decide +kernel
theorem dX3_countsRight_40 : decode cX3_countsRight 40 = .ok (.iconst 1, 1) := by decide +kernel
theorem dX3_countsRight_41 : decode cX3_countsRight 41 = .ok (.isub, 1) := by decide +kernel
theorem dX3_countsRight_42 : decode cX3_countsRight 42 = .ok (.iaload, 1) := by decide +kernel
theorem dX3_countsRight_43 : decode cX3_countsRight 43 = .ok (.iadd, 1) := by decide +kernel
theorem dX3_countsRight_44 : decode cX3_countsRight 44 = .ok (.aload_n 0, 1) := by decide +kernel
theorem dX3_countsRight_45 : decode cX3_countsRight 45 = .ok (.iload_n 3, 1) := by decide +kernel
theorem dX3_countsRight_46 : decode cX3_countsRight 46 = .ok (.aload_n 0, 1) := by decide +kernel
theorem dX3_countsRight_47 : decode cX3_countsRight 47 = .ok (.getfield 41, 3) := by decide +kernel
theorem dX3_countsRight_50 : decode cX3_countsRight 50 = .ok (.invokevirtual 67, 3) := by decide +kernel
theorem dX3_countsRight_53 : decode cX3_countsRight 53 = .ok (.if_icmp .eq 5, 3) := by decide +kernel
theorem dX3_countsRight_56 : decode cX3_countsRight 56 = .ok (.iconst 0, 1) := by decide +kernel
theorem dX3_countsRight_57 : decode cX3_countsRight 57 = .ok (.ireturn, 1) := by decide +kernel
theorem dX3_countsRight_58 : decode cX3_countsRight 58 = .ok (.iinc 3 1, 3) := by decide +kernel
theorem dX3_countsRight_61 : decode cX3_countsRight 61 = .ok (.goto (-51), 3) := by decide +kernel
theorem dX3_countsRight_64 : decode cX3_countsRight 64 = .ok (.iconst 1, 1) := by decide +kernel
theorem dX3_countsRight_65 : decode cX3_countsRight 65 = .ok (.ireturn, 1) := by decide +kernel
set_option maxRecDepth 20000 in
theorem ggX3_read_X3_look : GoodIn wsX3_read wsX3_look := goodIn_r _ [13, 14, 4, 1, 15, 16, 12, 17, 18, 19, 20, 21, 22, 23, 24, 25, 26, 27, 28, 29, 30, 31, 32, 33, 5, 6, 34, 35, 36, 37, 38, 39, 40, 41, 42, 43, 44, 45, 46] (by decide +kernel) (by decide +kernel)
set_option maxRecDepth 20000 in
theorem gX3_read_X3_look : GoodIn wsX3_read (wsV RX3 81 RX3 yX3_look wsX3_look) := goodIn_app (goodIn_of _ (by decide +kernel)) ggX3_read_X3_look
theorem dX3_read_0 : decode cX3_read 0 = .ok (.aload_n 0, 1) := by decide +kernel
theorem dX3_read_1 : decode cX3_read 1 = .ok (.iconst 0, 1) := by decide +kernel
theorem dX3_read_2 : decode cX3_read 2 = .ok (.putfield 41, 3) := by decide +kernel
theorem dX3_read_5 : decode cX3_read 5 = .ok (.aload_n 0, 1) := by decide +kernel
theorem dX3_read_6 : decode cX3_read 6 = .ok (.iconst 0, 1) := by decide +kernel
theorem dX3_read_7 : decode cX3_read 7 = .ok (.putfield 52, 3) := by decide +kernel
theorem dX3_read_10 : decode cX3_read 10 = .ok (.aload_n 0, 1) := by decide +kernel
theorem dX3_read_11 : decode cX3_read 11 = .ok (.iconst 1, 1) := by decide +kernel
theorem dX3_read_12 : decode cX3_read 12 = .ok (.putfield 16, 3) := by decide +kernel
theorem dX3_read_15 : decode cX3_read 15 = .ok (.iconst 0, 1) := by decide +kernel
theorem dX3_read_16 : decode cX3_read 16 = .ok (.istore_n 1, 1) := by decide +kernel
theorem dX3_read_17 : decode cX3_read 17 = .ok (.aload_n 0, 1) := by decide +kernel
theorem dX3_read_18 : decode cX3_read 18 = .ok (.iconst 0, 1) := by decide +kernel
theorem dX3_read_19 : decode cX3_read 19 = .ok (.invokevirtual 81, 3) := by decide +kernel
theorem dX3_read_22 : decode cX3_read 22 = .ok (.istore_n 2, 1) := by decide +kernel
theorem dX3_read_23 : decode cX3_read 23 = .ok (.iload_n 2, 1) := by decide +kernel
theorem dX3_read_24 : decode cX3_read 24 = .ok (.ifCond .ne 77, 3) := by decide +kernel
theorem dX3_read_27 : decode cX3_read 27 = .ok (.iload_n 1, 1) := by decide +kernel
theorem dX3_read_28 : decode cX3_read 28 = .ok (.bipush 9, 2) := by decide +kernel
theorem dX3_read_30 : decode cX3_read 30 = .ok (.iadd, 1) := by decide +kernel
theorem dX3_read_31 : decode cX3_read 31 = .ok (.aload_n 0, 1) := by decide +kernel
theorem dX3_read_32 : decode cX3_read 32 = .ok (.getfield 7, 3) := by decide +kernel
theorem dX3_read_35 : decode cX3_read 35 = .ok (.iload_n 1, 1) := by decide +kernel
theorem dX3_read_36 : decode cX3_read 36 = .ok (.iconst 4, 1) := by decide +kernel
theorem dX3_read_37 : decode cX3_read 37 = .ok (.iadd, 1) := by decide +kernel
theorem dX3_read_38 : decode cX3_read 38 = .ok (.iaload, 1) := by decide +kernel
theorem dX3_read_39 : decode cX3_read 39 = .ok (.iadd, 1) := by decide +kernel
theorem dX3_read_40 : decode cX3_read 40 = .ok (.istore_n 3, 1) := by decide +kernel
theorem dX3_read_41 : decode cX3_read 41 = .ok (.iload_n 1, 1) := by decide +kernel
theorem dX3_read_42 : decode cX3_read 42 = .ok (.istore 4, 2) := by decide +kernel
theorem dX3_read_44 : decode cX3_read 44 = .ok (.iload 4, 2) := by decide +kernel
theorem dX3_read_46 : decode cX3_read 46 = .ok (.iload_n 3, 1) := by decide +kernel
theorem dX3_read_47 : decode cX3_read 47 = .ok (.if_icmp .ge 23, 3) := by decide +kernel
theorem dX3_read_50 : decode cX3_read 50 = .ok (.aload_n 0, 1) := by decide +kernel
theorem dX3_read_51 : decode cX3_read 51 = .ok (.getfield 20, 3) := by decide +kernel
theorem dX3_read_54 : decode cX3_read 54 = .ok (.iload 4, 2) := by decide +kernel
theorem dX3_read_56 : decode cX3_read 56 = .ok (.aload_n 0, 1) := by decide +kernel
theorem dX3_read_57 : decode cX3_read 57 = .ok (.getfield 7, 3) := by decide +kernel
theorem dX3_read_60 : decode cX3_read 60 = .ok (.iload 4, 2) := by decide +kernel
theorem dX3_read_62 : decode cX3_read 62 = .ok (.iaload, 1) := by decide +kernel
theorem dX3_read_63 : decode cX3_read 63 = .ok (.iastore, 1) := by decide +kernel
theorem dX3_read_64 : decode cX3_read 64 = .ok (.iinc 4 1, 3) := by decide +kernel
theorem dX3_read_67 : decode cX3_read 67 = .ok (.goto (-23), 3) := by decide +kernel
theorem dX3_read_70 : decode cX3_read 70 = .ok (.aload_n 0, 1) := by decide +kernel
theorem dX3_read_71 : decode cX3_read 71 = .ok (.dup, 1) := by decide +kernel
theorem dX3_read_72 : decode cX3_read 72 = .ok (.getfield 41, 3) := by decide +kernel
theorem dX3_read_75 : decode cX3_read 75 = .ok (.iconst 1, 1) := by decide +kernel
theorem dX3_read_76 : decode cX3_read 76 = .ok (.iadd, 1) := by decide +kernel
theorem dX3_read_77 : decode cX3_read 77 = .ok (.putfield 41, 3) := by decide +kernel
theorem dX3_read_80 : decode cX3_read 80 = .ok (.aload_n 0, 1) := by decide +kernel
theorem dX3_read_81 : decode cX3_read 81 = .ok (.getfield 23, 3) := by decide +kernel
theorem dX3_read_84 : decode cX3_read 84 = .ok (.aload_n 0, 1) := by decide +kernel
theorem dX3_read_85 : decode cX3_read 85 = .ok (.getfield 41, 3) := by decide +kernel
theorem dX3_read_88 : decode cX3_read 88 = .ok (.iload_n 3, 1) := by decide +kernel
theorem dX3_read_89 : decode cX3_read 89 = .ok (.iastore, 1) := by decide +kernel
theorem dX3_read_90 : decode cX3_read 90 = .ok (.iload_n 3, 1) := by decide +kernel
theorem dX3_read_91 : decode cX3_read 91 = .ok (.istore_n 1, 1) := by decide +kernel
theorem dX3_read_92 : decode cX3_read 92 = .ok (.aload_n 0, 1) := by decide +kernel
theorem dX3_read_93 : decode cX3_read 93 = .ok (.iload_n 1, 1) := by decide +kernel
theorem dX3_read_94 : decode cX3_read 94 = .ok (.invokevirtual 81, 3) := by decide +kernel
theorem dX3_read_97 : decode cX3_read 97 = .ok (.istore_n 2, 1) := by decide +kernel
theorem dX3_read_98 : decode cX3_read 98 = .ok (.goto (-75), 3) := by decide +kernel
theorem dX3_read_101 : decode cX3_read 101 = .ok (.aload_n 0, 1) := by decide +kernel
theorem dX3_read_102 : decode cX3_read 102 = .ok (.iload_n 2, 1) := by decide +kernel
theorem dX3_read_103 : decode cX3_read 103 = .ok (.bipush 7, 2) := by decide +kernel
theorem dX3_read_105 : decode cX3_read 105 = .ok (.if_icmp .ne 7, 3) := by decide +kernel
theorem dX3_read_108 : decode cX3_read 108 = .ok (.iconst 0, 1) := by decide +kernel
theorem dX3_read_109 : decode cX3_read 109 = .ok (.goto 4, 3) := by decide +kernel
theorem dX3_read_112 : decode cX3_read 112 = .ok (.iload_n 2, 1) := by decide +kernel
theorem dX3_read_113 : decode cX3_read 113 = .ok (.putfield 84, 3) := by decide +kernel
theorem dX3_read_116 : decode cX3_read 116 = .ok (.aload_n 0, 1) := by decide +kernel
theorem dX3_read_117 : decode cX3_read 117 = .ok (.aload_n 0, 1) := by decide +kernel
theorem dX3_read_118 : decode cX3_read 118 = .ok (.getfield 41, 3) := by decide +kernel
theorem dX3_read_121 : decode cX3_read 121 = .ok (.putfield 70, 3) := by decide +kernel
theorem dX3_read_124 : decode cX3_read 124 = .ok (.return_, 1) := by decide +kernel
set_option maxRecDepth 20000 in
theorem ggX3_start_X3_read : GoodIn wsX3_start wsX3_read := goodIn_r _ [7, 2, 8, 9, 10, 11, 12, 13, 14, 15, 16, 17, 6, 18, 19, 20, 21, 22, 23, 24, 25, 26, 27, 28, 29, 30, 31, 32, 33, 34, 35, 36, 37, 38, 39, 40, 41, 42, 43, 44, 45, 46, 47, 48, 49, 50, 51] (by decide +kernel) (by decide +kernel)
set_option maxRecDepth 20000 in
theorem gX3_start_X3_read : GoodIn wsX3_start (wsV RX3 87 RX3 yX3_read wsX3_read) := goodIn_app (goodIn_of _ (by decide +kernel)) ggX3_start_X3_read
theorem dX3_start_0 : decode cX3_start 0 = .ok (.aload_n 0, 1) := by decide +kernel
theorem dX3_start_1 : decode cX3_start 1 = .ok (.iconst 0, 1) := by decide +kernel
theorem dX3_start_2 : decode cX3_start 2 = .ok (.putfield 33, 3) := by decide +kernel
theorem dX3_start_5 : decode cX3_start 5 = .ok (.aload_n 0, 1) := by decide +kernel
theorem dX3_start_6 : decode cX3_start 6 = .ok (.invokevirtual 87, 3) := by decide +kernel
theorem dX3_start_9 : decode cX3_start 9 = .ok (.aload_n 0, 1) := by decide +kernel
theorem dX3_start_10 : decode cX3_start 10 = .ok (.getfield 41, 3) := by decide +kernel
theorem dX3_start_13 : decode cX3_start 13 = .ok (.ireturn, 1) := by decide +kernel
set_option maxRecDepth 20000 in
theorem ggX3_isByte_X3_within : GoodIn wsX3_isByte wsX3_within := goodIn_r _ [5] (by decide +kernel) (by decide +kernel)
set_option maxRecDepth 20000 in
theorem gX3_isByte_X3_within : GoodIn wsX3_isByte (va_wsS RX3 48 yX3_within wsX3_within) := goodIn_app (goodIn_of _ (by decide +kernel)) ggX3_isByte_X3_within
theorem dX3_isByte_0 : decode cX3_isByte 0 = .ok (.iload_n 1, 1) := by decide +kernel
theorem dX3_isByte_1 : decode cX3_isByte 1 = .ok (.iconst 0, 1) := by decide +kernel
theorem dX3_isByte_2 : decode cX3_isByte 2 = .ok (.aload_n 0, 1) := by decide +kernel
theorem dX3_isByte_3 : decode cX3_isByte 3 = .ok (.getfield 29, 3) := by decide +kernel
theorem dX3_isByte_6 : decode cX3_isByte 6 = .ok (.bipush 32, 2) := by decide +kernel
theorem dX3_isByte_8 : decode cX3_isByte 8 = .ok (.idiv, 1) := by decide +kernel
theorem dX3_isByte_9 : decode cX3_isByte 9 = .ok (.iconst 1, 1) := by decide +kernel
theorem dX3_isByte_10 : decode cX3_isByte 10 = .ok (.isub, 1) := by decide +kernel
theorem dX3_isByte_11 : decode cX3_isByte 11 = .ok (.invokestatic 48, 3) := by decide +kernel
theorem dX3_isByte_14 : decode cX3_isByte 14 = .ok (.ifCond .eq 17, 3) := by decide +kernel
theorem dX3_isByte_17 : decode cX3_isByte 17 = .ok (.iload_n 2, 1) := by decide +kernel
theorem dX3_isByte_18 : decode cX3_isByte 18 = .ok (.iconst 0, 1) := by decide +kernel
theorem dX3_isByte_19 : decode cX3_isByte 19 = .ok (.bipush 31, 2) := by decide +kernel
theorem dX3_isByte_21 : decode cX3_isByte 21 = .ok (.invokestatic 48, 3) := by decide +kernel
theorem dX3_isByte_24 : decode cX3_isByte 24 = .ok (.ifCond .eq 7, 3) := by decide +kernel
theorem dX3_isByte_27 : decode cX3_isByte 27 = .ok (.iconst 1, 1) := by decide +kernel
theorem dX3_isByte_28 : decode cX3_isByte 28 = .ok (.goto 4, 3) := by decide +kernel
theorem dX3_isByte_31 : decode cX3_isByte 31 = .ok (.iconst 0, 1) := by decide +kernel
theorem dX3_isByte_32 : decode cX3_isByte 32 = .ok (.ireturn, 1) := by decide +kernel
set_option maxRecDepth 20000 in
theorem ggX3_poke_X3_within : GoodIn wsX3_poke wsX3_within := goodIn_r _ [6] (by decide +kernel) (by decide +kernel)
set_option maxRecDepth 20000 in
theorem gX3_poke_X3_within : GoodIn wsX3_poke (va_wsS RX3 48 yX3_within wsX3_within) := goodIn_app (goodIn_of _ (by decide +kernel)) ggX3_poke_X3_within
set_option maxRecDepth 20000 in
theorem ggX3_poke_X3_isByte : GoodIn wsX3_poke wsX3_isByte := goodIn_r _ [10, 11, 3, 4, 5, 6, 12, 13, 14, 15, 16, 17, 18, 19, 20, 21, 22, 23, 24] (by decide +kernel) (by decide +kernel)
set_option maxRecDepth 20000 in
theorem gX3_poke_X3_isByte : GoodIn wsX3_poke (wsV RX3 90 RX3 yX3_isByte wsX3_isByte) := goodIn_app (goodIn_of _ (by decide +kernel)) ggX3_poke_X3_isByte
theorem dX3_poke_0 : decode cX3_poke 0 = .ok (.aload_n 0, 1) := by decide +kernel
theorem dX3_poke_1 : decode cX3_poke 1 = .ok (.iload_n 3, 1) := by decide +kernel
theorem dX3_poke_2 : decode cX3_poke 2 = .ok (.iconst 1, 1) := by decide +kernel
theorem dX3_poke_3 : decode cX3_poke 3 = .ok (.sipush 255, 3) := by decide +kernel
theorem dX3_poke_6 : decode cX3_poke 6 = .ok (.invokestatic 48, 3) := by decide +kernel
theorem dX3_poke_9 : decode cX3_poke 9 = .ok (.ifCond .ne 7, 3) := by decide +kernel
theorem dX3_poke_12 : decode cX3_poke 12 = .ok (.iconst 1, 1) := by decide +kernel
theorem dX3_poke_13 : decode cX3_poke 13 = .ok (.goto 17, 3) := by decide +kernel
theorem dX3_poke_16 : decode cX3_poke 16 = .ok (.aload_n 0, 1) := by decide +kernel
theorem dX3_poke_17 : decode cX3_poke 17 = .ok (.iload_n 1, 1) := by decide +kernel
theorem dX3_poke_18 : decode cX3_poke 18 = .ok (.iload_n 2, 1) := by decide +kernel
theorem dX3_poke_19 : decode cX3_poke 19 = .ok (.invokevirtual 90, 3) := by decide +kernel
theorem dX3_poke_22 : decode cX3_poke 22 = .ok (.ifCond .ne 7, 3) := by decide +kernel
theorem dX3_poke_25 : decode cX3_poke 25 = .ok (.iconst 2, 1) := by decide +kernel
theorem dX3_poke_26 : decode cX3_poke 26 = .ok (.goto 4, 3) := by decide +kernel
theorem dX3_poke_29 : decode cX3_poke 29 = .ok (.iconst 0, 1) := by decide +kernel
theorem dX3_poke_30 : decode cX3_poke 30 = .ok (.putfield 33, 3) := by decide +kernel
theorem dX3_poke_33 : decode cX3_poke 33 = .ok (.aload_n 0, 1) := by decide +kernel
theorem dX3_poke_34 : decode cX3_poke 34 = .ok (.getfield 33, 3) := by decide +kernel
theorem dX3_poke_37 : decode cX3_poke 37 = .ok (.ifCond .eq 5, 3) := by decide +kernel
theorem dX3_poke_40 : decode cX3_poke 40 = .ok (.iconst 0, 1) := by decide +kernel
theorem dX3_poke_41 : decode cX3_poke 41 = .ok (.ireturn, 1) := by decide +kernel
theorem dX3_poke_42 : decode cX3_poke 42 = .ok (.aload_n 0, 1) := by decide +kernel
theorem dX3_poke_43 : decode cX3_poke 43 = .ok (.getfield 7, 3) := by decide +kernel
theorem dX3_poke_46 : decode cX3_poke 46 = .ok (.bipush 32, 2) := by decide +kernel
theorem dX3_poke_48 : decode cX3_poke 48 = .ok (.iload_n 1, 1) := by decide +kernel
theorem dX3_poke_49 : decode cX3_poke 49 = .ok (.imul, 1) := by decide +kernel
theorem dX3_poke_50 : decode cX3_poke 50 = .ok (.iload_n 2, 1) := by decide +kernel
theorem dX3_poke_51 : decode cX3_poke 51 = .ok (.iadd, 1) := by decide +kernel
theorem dX3_poke_52 : decode cX3_poke 52 = .ok (.dup2, 1) := by decide +kernel
theorem dX3_poke_53 : decode cX3_poke 53 = .ok (.iaload, 1) := by decide +kernel
theorem dX3_poke_54 : decode cX3_poke 54 = .ok (.iload_n 3, 1) := by decide +kernel
theorem dX3_poke_55 : decode cX3_poke 55 = .ok (.ixor, 1) := by decide +kernel
theorem dX3_poke_56 : decode cX3_poke 56 = .ok (.iastore, 1) := by decide +kernel
theorem dX3_poke_57 : decode cX3_poke 57 = .ok (.aload_n 0, 1) := by decide +kernel
theorem dX3_poke_58 : decode cX3_poke 58 = .ok (.getfield 7, 3) := by decide +kernel
theorem dX3_poke_61 : decode cX3_poke 61 = .ok (.bipush 32, 2) := by decide +kernel
theorem dX3_poke_63 : decode cX3_poke 63 = .ok (.iload_n 1, 1) := by decide +kernel
theorem dX3_poke_64 : decode cX3_poke 64 = .ok (.imul, 1) := by decide +kernel
theorem dX3_poke_65 : decode cX3_poke 65 = .ok (.iload_n 2, 1) := by decide +kernel
theorem dX3_poke_66 : decode cX3_poke 66 = .ok (.iadd, 1) := by decide +kernel
theorem dX3_poke_67 : decode cX3_poke 67 = .ok (.iaload, 1) := by decide +kernel
theorem dX3_poke_68 : decode cX3_poke 68 = .ok (.ireturn, 1) := by decide +kernel
set_option maxRecDepth 20000 in
theorem ggX3_byteOf_X3_isByte : GoodIn wsX3_byteOf wsX3_isByte := goodIn_r _ [7, 8, 9, 10, 6, 11, 12, 13, 14, 15, 16, 17, 18, 19, 20, 21, 22, 23, 24] (by decide +kernel) (by decide +kernel)
set_option maxRecDepth 20000 in
theorem gX3_byteOf_X3_isByte : GoodIn wsX3_byteOf (wsV RX3 90 RX3 yX3_isByte wsX3_isByte) := goodIn_app (goodIn_of _ (by decide +kernel)) ggX3_byteOf_X3_isByte
theorem dX3_byteOf_0 : decode cX3_byteOf 0 = .ok (.aload_n 0, 1) := by decide +kernel
theorem dX3_byteOf_1 : decode cX3_byteOf 1 = .ok (.aload_n 0, 1) := by decide +kernel
theorem dX3_byteOf_2 : decode cX3_byteOf 2 = .ok (.iload_n 1, 1) := by decide +kernel
theorem dX3_byteOf_3 : decode cX3_byteOf 3 = .ok (.iload_n 2, 1) := by decide +kernel
theorem dX3_byteOf_4 : decode cX3_byteOf 4 = .ok (.invokevirtual 90, 3) := by decide +kernel
theorem dX3_byteOf_7 : decode cX3_byteOf 7 = .ok (.ifCond .eq 7, 3) := by decide +kernel
theorem dX3_byteOf_10 : decode cX3_byteOf 10 = .ok (.iconst 0, 1) := by decide +kernel
theorem dX3_byteOf_11 : decode cX3_byteOf 11 = .ok (.goto 4, 3) := by decide +kernel
theorem dX3_byteOf_14 : decode cX3_byteOf 14 = .ok (.iconst 1, 1) := by decide +kernel
theorem dX3_byteOf_15 : decode cX3_byteOf 15 = .ok (.putfield 33, 3) := by decide +kernel
theorem dX3_byteOf_18 : decode cX3_byteOf 18 = .ok (.aload_n 0, 1) := by decide +kernel
theorem dX3_byteOf_19 : decode cX3_byteOf 19 = .ok (.getfield 33, 3) := by decide +kernel
theorem dX3_byteOf_22 : decode cX3_byteOf 22 = .ok (.ifCond .eq 7, 3) := by decide +kernel
theorem dX3_byteOf_25 : decode cX3_byteOf 25 = .ok (.iconst 0, 1) := by decide +kernel
theorem dX3_byteOf_26 : decode cX3_byteOf 26 = .ok (.goto 14, 3) := by decide +kernel
theorem dX3_byteOf_29 : decode cX3_byteOf 29 = .ok (.aload_n 0, 1) := by decide +kernel
theorem dX3_byteOf_30 : decode cX3_byteOf 30 = .ok (.getfield 7, 3) := by decide +kernel
theorem dX3_byteOf_33 : decode cX3_byteOf 33 = .ok (.bipush 32, 2) := by decide +kernel
theorem dX3_byteOf_35 : decode cX3_byteOf 35 = .ok (.iload_n 1, 1) := by decide +kernel
theorem dX3_byteOf_36 : decode cX3_byteOf 36 = .ok (.imul, 1) := by decide +kernel
theorem dX3_byteOf_37 : decode cX3_byteOf 37 = .ok (.iload_n 2, 1) := by decide +kernel
theorem dX3_byteOf_38 : decode cX3_byteOf 38 = .ok (.iadd, 1) := by decide +kernel
theorem dX3_byteOf_39 : decode cX3_byteOf 39 = .ok (.iaload, 1) := by decide +kernel
theorem dX3_byteOf_40 : decode cX3_byteOf 40 = .ok (.ireturn, 1) := by decide +kernel
theorem dX3_backup_0 : decode cX3_backup 0 = .ok (.aload_n 0, 1) := by decide +kernel
theorem dX3_backup_1 : decode cX3_backup 1 = .ok (.aload_n 0, 1) := by decide +kernel
theorem dX3_backup_2 : decode cX3_backup 2 = .ok (.getfield 16, 3) := by decide +kernel
theorem dX3_backup_5 : decode cX3_backup 5 = .ok (.ifCond .eq 7, 3) := by decide +kernel
theorem dX3_backup_8 : decode cX3_backup 8 = .ok (.iconst 0, 1) := by decide +kernel
theorem dX3_backup_9 : decode cX3_backup 9 = .ok (.goto 4, 3) := by decide +kernel
theorem dX3_backup_12 : decode cX3_backup 12 = .ok (.iconst 1, 1) := by decide +kernel
theorem dX3_backup_13 : decode cX3_backup 13 = .ok (.putfield 33, 3) := by decide +kernel
theorem dX3_backup_16 : decode cX3_backup 16 = .ok (.aload_n 0, 1) := by decide +kernel
theorem dX3_backup_17 : decode cX3_backup 17 = .ok (.getfield 33, 3) := by decide +kernel
theorem dX3_backup_20 : decode cX3_backup 20 = .ok (.ifCond .eq 5, 3) := by decide +kernel
theorem dX3_backup_23 : decode cX3_backup 23 = .ok (.iconst 0, 1) := by decide +kernel
theorem dX3_backup_24 : decode cX3_backup 24 = .ok (.ireturn, 1) := by decide +kernel
theorem dX3_backup_25 : decode cX3_backup 25 = .ok (.iconst 0, 1) := by decide +kernel
theorem dX3_backup_26 : decode cX3_backup 26 = .ok (.istore_n 1, 1) := by decide +kernel
theorem dX3_backup_27 : decode cX3_backup 27 = .ok (.iload_n 1, 1) := by decide +kernel
theorem dX3_backup_28 : decode cX3_backup 28 = .ok (.aload_n 0, 1) := by decide +kernel
theorem dX3_backup_29 : decode cX3_backup 29 = .ok (.getfield 29, 3) := by decide +kernel
theorem dX3_backup_32 : decode cX3_backup 32 = .ok (.if_icmp .ge 21, 3) := by decide +kernel
theorem dX3_backup_35 : decode cX3_backup 35 = .ok (.aload_n 0, 1) := by decide +kernel
theorem dX3_backup_36 : decode cX3_backup 36 = .ok (.getfield 13, 3) := by decide +kernel
theorem dX3_backup_39 : decode cX3_backup 39 = .ok (.iload_n 1, 1) := by decide +kernel
theorem dX3_backup_40 : decode cX3_backup 40 = .ok (.aload_n 0, 1) := by decide +kernel
theorem dX3_backup_41 : decode cX3_backup 41 = .ok (.getfield 7, 3) := by decide +kernel
theorem dX3_backup_44 : decode cX3_backup 44 = .ok (.iload_n 1, 1) := by decide +kernel
theorem dX3_backup_45 : decode cX3_backup 45 = .ok (.iaload, 1) := by decide +kernel
theorem dX3_backup_46 : decode cX3_backup 46 = .ok (.iastore, 1) := by decide +kernel
theorem dX3_backup_47 : decode cX3_backup 47 = .ok (.iinc 1 1, 3) := by decide +kernel
theorem dX3_backup_50 : decode cX3_backup 50 = .ok (.goto (-23), 3) := by decide +kernel
theorem dX3_backup_53 : decode cX3_backup 53 = .ok (.aload_n 0, 1) := by decide +kernel
theorem dX3_backup_54 : decode cX3_backup 54 = .ok (.iconst 1, 1) := by decide +kernel
theorem dX3_backup_55 : decode cX3_backup 55 = .ok (.putfield 93, 3) := by decide +kernel
theorem dX3_backup_58 : decode cX3_backup 58 = .ok (.aload_n 0, 1) := by decide +kernel
theorem dX3_backup_59 : decode cX3_backup 59 = .ok (.getfield 70, 3) := by decide +kernel
theorem dX3_backup_62 : decode cX3_backup 62 = .ok (.ireturn, 1) := by decide +kernel
set_option maxRecDepth 20000 in
theorem ggX3_restore_X3_read : GoodIn wsX3_restore wsX3_read := goodIn_r _ [11, 6, 12, 13, 4, 14, 15, 16, 17, 18, 19, 20, 10, 21, 3, 22, 23, 24, 25, 26, 27, 28, 29, 30, 31, 32, 33, 34, 35, 36, 37, 38, 39, 40, 41, 42, 43, 44, 45, 46, 47, 48, 49, 50, 51, 52, 53] (by decide +kernel) (by decide +kernel)
set_option maxRecDepth 20000 in
theorem gX3_restore_X3_read : GoodIn wsX3_restore (wsV RX3 87 RX3 yX3_read wsX3_read) := goodIn_app (goodIn_of _ (by decide +kernel)) ggX3_restore_X3_read
theorem dX3_restore_0 : decode cX3_restore 0 = .ok (.aload_n 0, 1) := by decide +kernel
theorem dX3_restore_1 : decode cX3_restore 1 = .ok (.aload_n 0, 1) := by decide +kernel
theorem dX3_restore_2 : decode cX3_restore 2 = .ok (.getfield 93, 3) := by decide +kernel
theorem dX3_restore_5 : decode cX3_restore 5 = .ok (.ifCond .eq 7, 3) := by decide +kernel
theorem dX3_restore_8 : decode cX3_restore 8 = .ok (.iconst 0, 1) := by decide +kernel
theorem dX3_restore_9 : decode cX3_restore 9 = .ok (.goto 4, 3) := by decide +kernel
theorem dX3_restore_12 : decode cX3_restore 12 = .ok (.iconst 1, 1) := by decide +kernel
theorem dX3_restore_13 : decode cX3_restore 13 = .ok (.putfield 33, 3) := by decide +kernel
theorem dX3_restore_16 : decode cX3_restore 16 = .ok (.aload_n 0, 1) := by decide +kernel
theorem dX3_restore_17 : decode cX3_restore 17 = .ok (.getfield 33, 3) := by decide +kernel
theorem dX3_restore_20 : decode cX3_restore 20 = .ok (.ifCond .eq 5, 3) := by decide +kernel
theorem dX3_restore_23 : decode cX3_restore 23 = .ok (.iconst 0, 1) := by decide +kernel
theorem dX3_restore_24 : decode cX3_restore 24 = .ok (.ireturn, 1) := by decide +kernel
theorem dX3_restore_25 : decode cX3_restore 25 = .ok (.iconst 0, 1) := by decide +kernel
theorem dX3_restore_26 : decode cX3_restore 26 = .ok (.istore_n 1, 1) := by decide +kernel
theorem dX3_restore_27 : decode cX3_restore 27 = .ok (.iload_n 1, 1) := by decide +kernel
theorem dX3_restore_28 : decode cX3_restore 28 = .ok (.aload_n 0, 1) := by decide +kernel
theorem dX3_restore_29 : decode cX3_restore 29 = .ok (.getfield 29, 3) := by decide +kernel
theorem dX3_restore_32 : decode cX3_restore 32 = .ok (.if_icmp .ge 21, 3) := by decide +kernel
theorem dX3_restore_35 : decode cX3_restore 35 = .ok (.aload_n 0, 1) := by decide +kernel
theorem dX3_restore_36 : decode cX3_restore 36 = .ok (.getfield 7, 3) := by decide +kernel
theorem dX3_restore_39 : decode cX3_restore 39 = .ok (.iload_n 1, 1) := by decide +kernel
theorem dX3_restore_40 : decode cX3_restore 40 = .ok (.aload_n 0, 1) := by decide +kernel
theorem dX3_restore_41 : decode cX3_restore 41 = .ok (.getfield 13, 3) := by decide +kernel
theorem dX3_restore_44 : decode cX3_restore 44 = .ok (.iload_n 1, 1) := by decide +kernel
theorem dX3_restore_45 : decode cX3_restore 45 = .ok (.iaload, 1) := by decide +kernel
theorem dX3_restore_46 : decode cX3_restore 46 = .ok (.iastore, 1) := by decide +kernel
theorem dX3_restore_47 : decode cX3_restore 47 = .ok (.iinc 1 1, 3) := by decide +kernel
theorem dX3_restore_50 : decode cX3_restore 50 = .ok (.goto (-23), 3) := by decide +kernel
theorem dX3_restore_53 : decode cX3_restore 53 = .ok (.aload_n 0, 1) := by decide +kernel
theorem dX3_restore_54 : decode cX3_restore 54 = .ok (.invokevirtual 87, 3) := by decide +kernel
theorem dX3_restore_57 : decode cX3_restore 57 = .ok (.aload_n 0, 1) := by decide +kernel
theorem dX3_restore_58 : decode cX3_restore 58 = .ok (.getfield 41, 3) := by decide +kernel
theorem dX3_restore_61 : decode cX3_restore 61 = .ok (.ireturn, 1) := by decide +kernel
set_option maxRecDepth 20000 in
theorem ggX3_row_X3_within : GoodIn wsX3_row wsX3_within := goodIn_r _ [9] (by decide +kernel) (by decide +kernel)
set_option maxRecDepth 20000 in
theorem gX3_row_X3_within : GoodIn wsX3_row (va_wsS RX3 48 yX3_within wsX3_within) := goodIn_app (goodIn_of _ (by decide +kernel)) ggX3_row_X3_within
set_option maxRecDepth 20000 in
theorem ggX3_row_X3_longOf : GoodIn wsX3_row wsX3_longOf := goodIn_r _ [13, 4, 5, 18, 19, 20, 21, 22, 23, 24, 25, 26, 27, 28, 29, 30] (by decide +kernel) (by decide +kernel)
set_option maxRecDepth 20000 in
theorem gX3_row_X3_longOf : GoodIn wsX3_row (wsV RX3 96 RX3 yX3_longOf wsX3_longOf) := goodIn_app (goodIn_of _ (by decide +kernel)) ggX3_row_X3_longOf
set_option maxRecDepth 20000 in
theorem ggX3_row_X3_kindOf : GoodIn wsX3_row wsX3_kindOf := goodIn_r _ [17, 4, 5, 18, 19, 20, 21, 22, 23, 24, 25, 26, 27, 28, 29, 30] (by decide +kernel) (by decide +kernel)
set_option maxRecDepth 20000 in
theorem gX3_row_X3_kindOf : GoodIn wsX3_row (wsV RX3 36 RX3 yX3_kindOf wsX3_kindOf) := goodIn_app (goodIn_of _ (by decide +kernel)) ggX3_row_X3_kindOf
theorem dX3_row_0 : decode cX3_row 0 = .ok (.iload_n 1, 1) := by decide +kernel
theorem dX3_row_1 : decode cX3_row 1 = .ok (.iconst 1, 1) := by decide +kernel
theorem dX3_row_2 : decode cX3_row 2 = .ok (.aload_n 0, 1) := by decide +kernel
theorem dX3_row_3 : decode cX3_row 3 = .ok (.getfield 41, 3) := by decide +kernel
theorem dX3_row_6 : decode cX3_row 6 = .ok (.invokestatic 48, 3) := by decide +kernel
theorem dX3_row_9 : decode cX3_row 9 = .ok (.istore_n 3, 1) := by decide +kernel
theorem dX3_row_10 : decode cX3_row 10 = .ok (.aload_n 0, 1) := by decide +kernel
theorem dX3_row_11 : decode cX3_row 11 = .ok (.iload_n 3, 1) := by decide +kernel
theorem dX3_row_12 : decode cX3_row 12 = .ok (.ifCond .ne 7, 3) := by decide +kernel
theorem dX3_row_15 : decode cX3_row 15 = .ok (.iconst 1, 1) := by decide +kernel
theorem dX3_row_16 : decode cX3_row 16 = .ok (.goto 47, 3) := by decide +kernel
theorem dX3_row_19 : decode cX3_row 19 = .ok (.iload_n 2, 1) := by decide +kernel
theorem dX3_row_20 : decode cX3_row 20 = .ok (.iconst 0, 1) := by decide +kernel
theorem dX3_row_21 : decode cX3_row 21 = .ok (.iconst 2, 1) := by decide +kernel
theorem dX3_row_22 : decode cX3_row 22 = .ok (.invokestatic 48, 3) := by decide +kernel
theorem dX3_row_25 : decode cX3_row 25 = .ok (.ifCond .ne 13, 3) := by decide +kernel
theorem dX3_row_28 : decode cX3_row 28 = .ok (.iload_n 2, 1) := by decide +kernel
theorem dX3_row_29 : decode cX3_row 29 = .ok (.bipush 10, 2) := by decide +kernel
theorem dX3_row_31 : decode cX3_row 31 = .ok (.if_icmp .ge 7, 3) := by decide +kernel
theorem dX3_row_34 : decode cX3_row 34 = .ok (.iconst 2, 1) := by decide +kernel
theorem dX3_row_35 : decode cX3_row 35 = .ok (.goto 28, 3) := by decide +kernel
theorem dX3_row_38 : decode cX3_row 38 = .ok (.iload_n 2, 1) := by decide +kernel
theorem dX3_row_39 : decode cX3_row 39 = .ok (.bipush 10, 2) := by decide +kernel
theorem dX3_row_41 : decode cX3_row 41 = .ok (.if_icmp .lt 21, 3) := by decide +kernel
theorem dX3_row_44 : decode cX3_row 44 = .ok (.iload_n 2, 1) := by decide +kernel
theorem dX3_row_45 : decode cX3_row 45 = .ok (.bipush 10, 2) := by decide +kernel
theorem dX3_row_47 : decode cX3_row 47 = .ok (.isub, 1) := by decide +kernel
theorem dX3_row_48 : decode cX3_row 48 = .ok (.aload_n 0, 1) := by decide +kernel
theorem dX3_row_49 : decode cX3_row 49 = .ok (.iload_n 1, 1) := by decide +kernel
theorem dX3_row_50 : decode cX3_row 50 = .ok (.iconst 1, 1) := by decide +kernel
theorem dX3_row_51 : decode cX3_row 51 = .ok (.isub, 1) := by decide +kernel
theorem dX3_row_52 : decode cX3_row 52 = .ok (.invokevirtual 96, 3) := by decide +kernel
theorem dX3_row_55 : decode cX3_row 55 = .ok (.if_icmp .lt 7, 3) := by decide +kernel
theorem dX3_row_58 : decode cX3_row 58 = .ok (.iconst 1, 1) := by decide +kernel
theorem dX3_row_59 : decode cX3_row 59 = .ok (.goto 4, 3) := by decide +kernel
theorem dX3_row_62 : decode cX3_row 62 = .ok (.iconst 0, 1) := by decide +kernel
theorem dX3_row_63 : decode cX3_row 63 = .ok (.putfield 33, 3) := by decide +kernel
theorem dX3_row_66 : decode cX3_row 66 = .ok (.aload_n 0, 1) := by decide +kernel
theorem dX3_row_67 : decode cX3_row 67 = .ok (.getfield 33, 3) := by decide +kernel
theorem dX3_row_70 : decode cX3_row 70 = .ok (.ifCond .eq 5, 3) := by decide +kernel
theorem dX3_row_73 : decode cX3_row 73 = .ok (.iconst 0, 1) := by decide +kernel
theorem dX3_row_74 : decode cX3_row 74 = .ok (.ireturn, 1) := by decide +kernel
theorem dX3_row_75 : decode cX3_row 75 = .ok (.iload_n 1, 1) := by decide +kernel
theorem dX3_row_76 : decode cX3_row 76 = .ok (.iconst 1, 1) := by decide +kernel
theorem dX3_row_77 : decode cX3_row 77 = .ok (.isub, 1) := by decide +kernel
theorem dX3_row_78 : decode cX3_row 78 = .ok (.istore 4, 2) := by decide +kernel
theorem dX3_row_80 : decode cX3_row 80 = .ok (.iload_n 2, 1) := by decide +kernel
theorem dX3_row_81 : decode cX3_row 81 = .ok (.ifCond .ne 12, 3) := by decide +kernel
theorem dX3_row_84 : decode cX3_row 84 = .ok (.aload_n 0, 1) := by decide +kernel
theorem dX3_row_85 : decode cX3_row 85 = .ok (.iload 4, 2) := by decide +kernel
theorem dX3_row_87 : decode cX3_row 87 = .ok (.invokevirtual 36, 3) := by decide +kernel
theorem dX3_row_90 : decode cX3_row 90 = .ok (.goto 58, 3) := by decide +kernel
theorem dX3_row_93 : decode cX3_row 93 = .ok (.iload_n 2, 1) := by decide +kernel
theorem dX3_row_94 : decode cX3_row 94 = .ok (.iconst 1, 1) := by decide +kernel
theorem dX3_row_95 : decode cX3_row 95 = .ok (.if_icmp .ne 12, 3) := by decide +kernel
theorem dX3_row_98 : decode cX3_row 98 = .ok (.aload_n 0, 1) := by decide +kernel
theorem dX3_row_99 : decode cX3_row 99 = .ok (.iload 4, 2) := by decide +kernel
theorem dX3_row_101 : decode cX3_row 101 = .ok (.invokevirtual 96, 3) := by decide +kernel
theorem dX3_row_104 : decode cX3_row 104 = .ok (.goto 44, 3) := by decide +kernel
theorem dX3_row_107 : decode cX3_row 107 = .ok (.iload_n 2, 1) := by decide +kernel
theorem dX3_row_108 : decode cX3_row 108 = .ok (.iconst 2, 1) := by decide +kernel
theorem dX3_row_109 : decode cX3_row 109 = .ok (.if_icmp .ne 20, 3) := by decide +kernel
theorem dX3_row_112 : decode cX3_row 112 = .ok (.iload 4, 2) := by decide +kernel
theorem dX3_row_114 : decode cX3_row 114 = .ok (.aload_n 0, 1) := by decide +kernel
theorem dX3_row_115 : decode cX3_row 115 = .ok (.getfield 70, 3) := by decide +kernel
theorem dX3_row_118 : decode cX3_row 118 = .ok (.if_icmp .ge 7, 3) := by decide +kernel
theorem dX3_row_121 : decode cX3_row 121 = .ok (.iconst 1, 1) := by decide +kernel
theorem dX3_row_122 : decode cX3_row 122 = .ok (.goto 26, 3) := by decide +kernel
theorem dX3_row_125 : decode cX3_row 125 = .ok (.iconst 0, 1) := by decide +kernel
theorem dX3_row_126 : decode cX3_row 126 = .ok (.goto 22, 3) := by decide +kernel
theorem dX3_row_129 : decode cX3_row 129 = .ok (.aload_n 0, 1) := by decide +kernel
theorem dX3_row_130 : decode cX3_row 130 = .ok (.getfield 20, 3) := by decide +kernel
theorem dX3_row_133 : decode cX3_row 133 = .ok (.aload_n 0, 1) := by decide +kernel
theorem dX3_row_134 : decode cX3_row 134 = .ok (.getfield 23, 3) := by decide +kernel
theorem dX3_row_137 : decode cX3_row 137 = .ok (.iload 4, 2) := by decide +kernel
theorem dX3_row_139 : decode cX3_row 139 = .ok (.iaload, 1) := by decide +kernel
theorem dX3_row_140 : decode cX3_row 140 = .ok (.iconst 5, 1) := by decide +kernel
theorem dX3_row_141 : decode cX3_row 141 = .ok (.iadd, 1) := by decide +kernel
theorem dX3_row_142 : decode cX3_row 142 = .ok (.iload_n 2, 1) := by decide +kernel
theorem dX3_row_143 : decode cX3_row 143 = .ok (.iadd, 1) := by decide +kernel
theorem dX3_row_144 : decode cX3_row 144 = .ok (.bipush 10, 2) := by decide +kernel
theorem dX3_row_146 : decode cX3_row 146 = .ok (.isub, 1) := by decide +kernel
theorem dX3_row_147 : decode cX3_row 147 = .ok (.iaload, 1) := by decide +kernel
theorem dX3_row_148 : decode cX3_row 148 = .ok (.ireturn, 1) := by decide +kernel
set_option maxRecDepth 20000 in
theorem ggX3_find_X3_within : GoodIn wsX3_find wsX3_within := goodIn_r _ [6] (by decide +kernel) (by decide +kernel)
set_option maxRecDepth 20000 in
theorem gX3_find_X3_within : GoodIn wsX3_find (va_wsS RX3 48 yX3_within wsX3_within) := goodIn_app (goodIn_of _ (by decide +kernel)) ggX3_find_X3_within
set_option maxRecDepth 20000 in
theorem ggX3_find_X3_kindOf : GoodIn wsX3_find wsX3_kindOf := goodIn_r _ [10, 11, 12, 13, 14, 15, 16, 17, 18, 19, 20, 21, 22, 23, 24, 25] (by decide +kernel) (by decide +kernel)
set_option maxRecDepth 20000 in
theorem gX3_find_X3_kindOf : GoodIn wsX3_find (wsV RX3 36 RX3 yX3_kindOf wsX3_kindOf) := goodIn_app (goodIn_of _ (by decide +kernel)) ggX3_find_X3_kindOf
theorem dX3_find_0 : decode cX3_find 0 = .ok (.aload_n 0, 1) := by decide +kernel
theorem dX3_find_1 : decode cX3_find 1 = .ok (.iload_n 1, 1) := by decide +kernel
theorem dX3_find_2 : decode cX3_find 2 = .ok (.iconst 1, 1) := by decide +kernel
theorem dX3_find_3 : decode cX3_find 3 = .ok (.iconst 5, 1) := by decide +kernel
theorem dX3_find_4 : decode cX3_find 4 = .ok (.invokestatic 48, 3) := by decide +kernel
theorem dX3_find_7 : decode cX3_find 7 = .ok (.ifCond .eq 11, 3) := by decide +kernel
theorem dX3_find_10 : decode cX3_find 10 = .ok (.iload_n 2, 1) := by decide +kernel
theorem dX3_find_11 : decode cX3_find 11 = .ok (.ifCond .lt 7, 3) := by decide +kernel
theorem dX3_find_14 : decode cX3_find 14 = .ok (.iconst 0, 1) := by decide +kernel
theorem dX3_find_15 : decode cX3_find 15 = .ok (.goto 4, 3) := by decide +kernel
theorem dX3_find_18 : decode cX3_find 18 = .ok (.iconst 1, 1) := by decide +kernel
theorem dX3_find_19 : decode cX3_find 19 = .ok (.putfield 33, 3) := by decide +kernel
theorem dX3_find_22 : decode cX3_find 22 = .ok (.aload_n 0, 1) := by decide +kernel
theorem dX3_find_23 : decode cX3_find 23 = .ok (.getfield 33, 3) := by decide +kernel
theorem dX3_find_26 : decode cX3_find 26 = .ok (.ifCond .eq 5, 3) := by decide +kernel
theorem dX3_find_29 : decode cX3_find 29 = .ok (.iconst 0, 1) := by decide +kernel
theorem dX3_find_30 : decode cX3_find 30 = .ok (.ireturn, 1) := by decide +kernel
theorem dX3_find_31 : decode cX3_find 31 = .ok (.iconst 0, 1) := by decide +kernel
theorem dX3_find_32 : decode cX3_find 32 = .ok (.istore_n 3, 1) := by decide +kernel
end
section
theorem dX3_find_33 : decode cX3_find 33 = .ok (.iconst 0, 1) := by decide +kernel
theorem dX3_find_34 : decode cX3_find 34 = .ok (.istore 4, 2) := by decide +kernel
theorem dX3_find_36 : decode cX3_find 36 = .ok (.iload 4, 2) := by decide +kernel
theorem dX3_find_38 : decode cX3_find 38 = .ok (.aload_n 0, 1) := by decide +kernel
theorem dX3_find_39 : decode cX3_find 39 = .ok (.getfield 41, 3) := by decide +kernel
theorem dX3_find_42 : decode cX3_find 42 = .ok (.if_icmp .ge 32, 3) := by decide +kernel
theorem dX3_find_45 : decode cX3_find 45 = .ok (.aload_n 0, 1) := by decide +kernel
theorem dX3_find_46 : decode cX3_find 46 = .ok (.iload 4, 2) := by decide +kernel
theorem dX3_find_48 : decode cX3_find 48 = .ok (.invokevirtual 36, 3) := by decide +kernel
theorem dX3_find_51 : decode cX3_find 51 = .ok (.iload_n 1, 1) := by decide +kernel
theorem dX3_find_52 : decode cX3_find 52 = .ok (.if_icmp .ne 16, 3) := by decide +kernel
theorem dX3_find_55 : decode cX3_find 55 = .ok (.iload_n 3, 1) := by decide +kernel
theorem dX3_find_56 : decode cX3_find 56 = .ok (.iload_n 2, 1) := by decide +kernel
theorem dX3_find_57 : decode cX3_find 57 = .ok (.if_icmp .ne 8, 3) := by decide +kernel
theorem dX3_find_60 : decode cX3_find 60 = .ok (.iload 4, 2) := by decide +kernel
theorem dX3_find_62 : decode cX3_find 62 = .ok (.iconst 1, 1) := by decide +kernel
theorem dX3_find_63 : decode cX3_find 63 = .ok (.iadd, 1) := by decide +kernel
theorem dX3_find_64 : decode cX3_find 64 = .ok (.ireturn, 1) := by decide +kernel
theorem dX3_find_65 : decode cX3_find 65 = .ok (.iinc 3 1, 3) := by decide +kernel
theorem dX3_find_68 : decode cX3_find 68 = .ok (.iinc 4 1, 3) := by decide +kernel
theorem dX3_find_71 : decode cX3_find 71 = .ok (.goto (-35), 3) := by decide +kernel
theorem dX3_find_74 : decode cX3_find 74 = .ok (.iconst (-1), 1) := by decide +kernel
theorem dX3_find_75 : decode cX3_find 75 = .ok (.ireturn, 1) := by decide +kernel
theorem dX3_wrong_0 : decode cX3_wrong 0 = .ok (.aload_n 0, 1) := by decide +kernel
theorem dX3_wrong_1 : decode cX3_wrong 1 = .ok (.iconst 0, 1) := by decide +kernel
theorem dX3_wrong_2 : decode cX3_wrong 2 = .ok (.putfield 33, 3) := by decide +kernel
theorem dX3_wrong_5 : decode cX3_wrong 5 = .ok (.aload_n 0, 1) := by decide +kernel
theorem dX3_wrong_6 : decode cX3_wrong 6 = .ok (.getfield 84, 3) := by decide +kernel
theorem dX3_wrong_9 : decode cX3_wrong 9 = .ok (.ireturn, 1) := by decide +kernel
set_option maxRecDepth 20000 in
theorem ggX3_total_X3_within : GoodIn wsX3_total wsX3_within := goodIn_r _ [8] (by decide +kernel) (by decide +kernel)
set_option maxRecDepth 20000 in
theorem gX3_total_X3_within : GoodIn wsX3_total (va_wsS RX3 48 yX3_within wsX3_within) := goodIn_app (goodIn_of _ (by decide +kernel)) ggX3_total_X3_within
set_option maxRecDepth 20000 in
theorem ggX3_total_X3_kindOf : GoodIn wsX3_total wsX3_kindOf := goodIn_r _ [12, 3, 4, 17, 18, 19, 20, 21, 22, 23, 24, 25, 26, 27, 28, 29] (by decide +kernel) (by decide +kernel)
set_option maxRecDepth 20000 in
theorem gX3_total_X3_kindOf : GoodIn wsX3_total (wsV RX3 36 RX3 yX3_kindOf wsX3_kindOf) := goodIn_app (goodIn_of _ (by decide +kernel)) ggX3_total_X3_kindOf
set_option maxRecDepth 20000 in
theorem ggX3_total_X3_longOf : GoodIn wsX3_total wsX3_longOf := goodIn_r _ [16, 3, 4, 17, 18, 19, 20, 21, 22, 23, 24, 25, 26, 27, 28, 29] (by decide +kernel) (by decide +kernel)
set_option maxRecDepth 20000 in
theorem gX3_total_X3_longOf : GoodIn wsX3_total (wsV RX3 96 RX3 yX3_longOf wsX3_longOf) := goodIn_app (goodIn_of _ (by decide +kernel)) ggX3_total_X3_longOf
theorem dX3_total_0 : decode cX3_total 0 = .ok (.aload_n 0, 1) := by decide +kernel
theorem dX3_total_1 : decode cX3_total 1 = .ok (.iload_n 1, 1) := by decide +kernel
theorem dX3_total_2 : decode cX3_total 2 = .ok (.iconst 1, 1) := by decide +kernel
theorem dX3_total_3 : decode cX3_total 3 = .ok (.iconst 5, 1) := by decide +kernel
theorem dX3_total_4 : decode cX3_total 4 = .ok (.invokestatic 48, 3) := by decide +kernel
theorem dX3_total_7 : decode cX3_total 7 = .ok (.ifCond .eq 7, 3) := by decide +kernel
theorem dX3_total_10 : decode cX3_total 10 = .ok (.iconst 0, 1) := by decide +kernel
theorem dX3_total_11 : decode cX3_total 11 = .ok (.goto 4, 3) := by decide +kernel
theorem dX3_total_14 : decode cX3_total 14 = .ok (.iconst 1, 1) := by decide +kernel
theorem dX3_total_15 : decode cX3_total 15 = .ok (.putfield 33, 3) := by decide +kernel
theorem dX3_total_18 : decode cX3_total 18 = .ok (.aload_n 0, 1) := by decide +kernel
theorem dX3_total_19 : decode cX3_total 19 = .ok (.getfield 33, 3) := by decide +kernel
theorem dX3_total_22 : decode cX3_total 22 = .ok (.ifCond .eq 5, 3) := by decide +kernel
theorem dX3_total_25 : decode cX3_total 25 = .ok (.iconst 0, 1) := by decide +kernel
theorem dX3_total_26 : decode cX3_total 26 = .ok (.ireturn, 1) := by decide +kernel
theorem dX3_total_27 : decode cX3_total 27 = .ok (.iconst 0, 1) := by decide +kernel
theorem dX3_total_28 : decode cX3_total 28 = .ok (.istore 4, 2) := by decide +kernel
theorem dX3_total_30 : decode cX3_total 30 = .ok (.iconst 0, 1) := by decide +kernel
theorem dX3_total_31 : decode cX3_total 31 = .ok (.istore 5, 2) := by decide +kernel
theorem dX3_total_33 : decode cX3_total 33 = .ok (.iload 5, 2) := by decide +kernel
theorem dX3_total_35 : decode cX3_total 35 = .ok (.aload_n 0, 1) := by decide +kernel
theorem dX3_total_36 : decode cX3_total 36 = .ok (.getfield 41, 3) := by decide +kernel
theorem dX3_total_39 : decode cX3_total 39 = .ok (.if_icmp .ge 73, 3) := by decide +kernel
theorem dX3_total_42 : decode cX3_total 42 = .ok (.aload_n 0, 1) := by decide +kernel
theorem dX3_total_43 : decode cX3_total 43 = .ok (.iload 5, 2) := by decide +kernel
theorem dX3_total_45 : decode cX3_total 45 = .ok (.invokevirtual 36, 3) := by decide +kernel
theorem dX3_total_48 : decode cX3_total 48 = .ok (.iload_n 1, 1) := by decide +kernel
theorem dX3_total_49 : decode cX3_total 49 = .ok (.if_icmp .ne 57, 3) := by decide +kernel
theorem dX3_total_52 : decode cX3_total 52 = .ok (.iload 5, 2) := by decide +kernel
theorem dX3_total_54 : decode cX3_total 54 = .ok (.iconst 1, 1) := by decide +kernel
theorem dX3_total_55 : decode cX3_total 55 = .ok (.iadd, 1) := by decide +kernel
theorem dX3_total_56 : decode cX3_total 56 = .ok (.iload_n 2, 1) := by decide +kernel
theorem dX3_total_57 : decode cX3_total 57 = .ok (.iload_n 3, 1) := by decide +kernel
theorem dX3_total_58 : decode cX3_total 58 = .ok (.invokestatic 48, 3) := by decide +kernel
theorem dX3_total_61 : decode cX3_total 61 = .ok (.ifCond .eq 45, 3) := by decide +kernel
theorem dX3_total_64 : decode cX3_total 64 = .ok (.iconst 0, 1) := by decide +kernel
theorem dX3_total_65 : decode cX3_total 65 = .ok (.istore 6, 2) := by decide +kernel
theorem dX3_total_67 : decode cX3_total 67 = .ok (.iload 6, 2) := by decide +kernel
theorem dX3_total_69 : decode cX3_total 69 = .ok (.aload_n 0, 1) := by decide +kernel
theorem dX3_total_70 : decode cX3_total 70 = .ok (.iload 5, 2) := by decide +kernel
theorem dX3_total_72 : decode cX3_total 72 = .ok (.invokevirtual 96, 3) := by decide +kernel
theorem dX3_total_75 : decode cX3_total 75 = .ok (.if_icmp .ge 31, 3) := by decide +kernel
theorem dX3_total_78 : decode cX3_total 78 = .ok (.iload 4, 2) := by decide +kernel
theorem dX3_total_80 : decode cX3_total 80 = .ok (.aload_n 0, 1) := by decide +kernel
theorem dX3_total_81 : decode cX3_total 81 = .ok (.getfield 20, 3) := by decide +kernel
theorem dX3_total_84 : decode cX3_total 84 = .ok (.aload_n 0, 1) := by decide +kernel
theorem dX3_total_85 : decode cX3_total 85 = .ok (.getfield 23, 3) := by decide +kernel
theorem dX3_total_88 : decode cX3_total 88 = .ok (.iload 5, 2) := by decide +kernel
theorem dX3_total_90 : decode cX3_total 90 = .ok (.iaload, 1) := by decide +kernel
theorem dX3_total_91 : decode cX3_total 91 = .ok (.iconst 5, 1) := by decide +kernel
theorem dX3_total_92 : decode cX3_total 92 = .ok (.iadd, 1) := by decide +kernel
theorem dX3_total_93 : decode cX3_total 93 = .ok (.iload 6, 2) := by decide +kernel
theorem dX3_total_95 : decode cX3_total 95 = .ok (.iadd, 1) := by decide +kernel
theorem dX3_total_96 : decode cX3_total 96 = .ok (.iaload, 1) := by decide +kernel
theorem dX3_total_97 : decode cX3_total 97 = .ok (.iadd, 1) := by decide +kernel
theorem dX3_total_98 : decode cX3_total 98 = .ok (.istore 4, 2) := by decide +kernel
theorem dX3_total_100 : decode cX3_total 100 = .ok (.iinc 6 1, 3) := by decide +kernel
theorem dX3_total_103 : decode cX3_total 103 = .ok (.goto (-36), 3) := by decide +kernel
theorem dX3_total_106 : decode cX3_total 106 = .ok (.iinc 5 1, 3) := by decide +kernel
theorem dX3_total_109 : decode cX3_total 109 = .ok (.goto (-76), 3) := by decide +kernel
theorem dX3_total_112 : decode cX3_total 112 = .ok (.iload 4, 2) := by decide +kernel
theorem dX3_total_114 : decode cX3_total 114 = .ok (.ireturn, 1) := by decide +kernel
set_option maxRecDepth 20000 in
theorem ggX3_count_X3_inMemory : GoodIn wsX3_count wsX3_inMemory := goodIn_r _ [12, 7, 3, 4, 22, 23, 24, 25, 26, 27, 28, 29, 30, 31, 32, 33, 34] (by decide +kernel) (by decide +kernel)
set_option maxRecDepth 20000 in
theorem gX3_count_X3_inMemory : GoodIn wsX3_count (wsV RX3 73 RX3 yX3_inMemory wsX3_inMemory) := goodIn_app (goodIn_of _ (by decide +kernel)) ggX3_count_X3_inMemory
set_option maxRecDepth 20000 in
theorem ggX3_count_X3_rowsOf : GoodIn wsX3_count wsX3_rowsOf := goodIn_r _ [16, 17, 18, 19, 11, 20, 21, 7, 22, 23, 24, 25, 26, 27, 28, 29, 30, 31, 32, 33, 34] (by decide +kernel) (by decide +kernel)
set_option maxRecDepth 20000 in
theorem gX3_count_X3_rowsOf : GoodIn wsX3_count (wsV RX3 67 RX3 yX3_rowsOf wsX3_rowsOf) := goodIn_app (goodIn_of _ (by decide +kernel)) ggX3_count_X3_rowsOf
theorem dX3_count_0 : decode cX3_count 0 = .ok (.aload_n 0, 1) := by decide +kernel
theorem dX3_count_1 : decode cX3_count 1 = .ok (.iconst 0, 1) := by decide +kernel
theorem dX3_count_2 : decode cX3_count 2 = .ok (.putfield 33, 3) := by decide +kernel
theorem dX3_count_5 : decode cX3_count 5 = .ok (.iload_n 1, 1) := by decide +kernel
theorem dX3_count_6 : decode cX3_count 6 = .ok (.tableswitch 107 0 7 #[46, 54, 59, 64, 69, 74, 87, 97], 46) := by decide +kernel
theorem dX3_count_52 : decode cX3_count 52 = .ok (.aload_n 0, 1) := by decide +kernel
theorem dX3_count_53 : decode cX3_count 53 = .ok (.getfield 29, 3) := by decide +kernel
theorem dX3_count_56 : decode cX3_count 56 = .ok (.bipush 32, 2) := by decide +kernel
theorem dX3_count_58 : decode cX3_count 58 = .ok (.idiv, 1) := by decide +kernel
theorem dX3_count_59 : decode cX3_count 59 = .ok (.ireturn, 1) := by decide +kernel
theorem dX3_count_60 : decode cX3_count 60 = .ok (.aload_n 0, 1) := by decide +kernel
theorem dX3_count_61 : decode cX3_count 61 = .ok (.getfield 41, 3) := by decide +kernel
theorem dX3_count_64 : decode cX3_count 64 = .ok (.ireturn, 1) := by decide +kernel
theorem dX3_count_65 : decode cX3_count 65 = .ok (.aload_n 0, 1) := by decide +kernel
theorem dX3_count_66 : decode cX3_count 66 = .ok (.getfield 70, 3) := by decide +kernel
theorem dX3_count_69 : decode cX3_count 69 = .ok (.ireturn, 1) := by decide +kernel
theorem dX3_count_70 : decode cX3_count 70 = .ok (.aload_n 0, 1) := by decide +kernel
theorem dX3_count_71 : decode cX3_count 71 = .ok (.invokevirtual 73, 3) := by decide +kernel
theorem dX3_count_74 : decode cX3_count 74 = .ok (.ireturn, 1) := by decide +kernel
theorem dX3_count_75 : decode cX3_count 75 = .ok (.aload_n 0, 1) := by decide +kernel
theorem dX3_count_76 : decode cX3_count 76 = .ok (.getfield 52, 3) := by decide +kernel
theorem dX3_count_79 : decode cX3_count 79 = .ok (.ireturn, 1) := by decide +kernel
theorem dX3_count_80 : decode cX3_count 80 = .ok (.aload_n 0, 1) := by decide +kernel
theorem dX3_count_81 : decode cX3_count 81 = .ok (.getfield 16, 3) := by decide +kernel
theorem dX3_count_84 : decode cX3_count 84 = .ok (.ifCond .eq 7, 3) := by decide +kernel
theorem dX3_count_87 : decode cX3_count 87 = .ok (.iconst 1, 1) := by decide +kernel
theorem dX3_count_88 : decode cX3_count 88 = .ok (.goto 4, 3) := by decide +kernel
theorem dX3_count_91 : decode cX3_count 91 = .ok (.iconst 0, 1) := by decide +kernel
theorem dX3_count_92 : decode cX3_count 92 = .ok (.ireturn, 1) := by decide +kernel
theorem dX3_count_93 : decode cX3_count 93 = .ok (.aload_n 0, 1) := by decide +kernel
theorem dX3_count_94 : decode cX3_count 94 = .ok (.getfield 23, 3) := by decide +kernel
theorem dX3_count_97 : decode cX3_count 97 = .ok (.aload_n 0, 1) := by decide +kernel
theorem dX3_count_98 : decode cX3_count 98 = .ok (.getfield 41, 3) := by decide +kernel
theorem dX3_count_101 : decode cX3_count 101 = .ok (.iaload, 1) := by decide +kernel
theorem dX3_count_102 : decode cX3_count 102 = .ok (.ireturn, 1) := by decide +kernel
theorem dX3_count_103 : decode cX3_count 103 = .ok (.aload_n 0, 1) := by decide +kernel
theorem dX3_count_104 : decode cX3_count 104 = .ok (.iconst 5, 1) := by decide +kernel
theorem dX3_count_105 : decode cX3_count 105 = .ok (.aload_n 0, 1) := by decide +kernel
theorem dX3_count_106 : decode cX3_count 106 = .ok (.getfield 41, 3) := by decide +kernel
theorem dX3_count_109 : decode cX3_count 109 = .ok (.invokevirtual 67, 3) := by decide +kernel
theorem dX3_count_112 : decode cX3_count 112 = .ok (.ireturn, 1) := by decide +kernel
theorem dX3_count_113 : decode cX3_count 113 = .ok (.iconst (-1), 1) := by decide +kernel
theorem dX3_count_114 : decode cX3_count 114 = .ok (.ireturn, 1) := by decide +kernel
theorem dJx00060_init_a7421_0 : decode cJx00060_init_a7421 0 = .ok (.aload_n 0, 1) := by decide +kernel
theorem dJx00060_init_a7421_1 : decode cJx00060_init_a7421 1 = .ok (.aload_n 1, 1) := by decide +kernel
theorem dJx00060_init_a7421_2 : decode cJx00060_init_a7421 2 = .ok (.invokespecial 7, 3) := by decide +kernel
theorem dJx00060_init_a7421_5 : decode cJx00060_init_a7421 5 = .ok (.return_, 1) := by decide +kernel
theorem dJ9_max_7cf53_0 : decode cJ9_max_7cf53 0 = .ok (.iload_n 0, 1) := by decide +kernel
theorem dJ9_max_7cf53_1 : decode cJ9_max_7cf53 1 = .ok (.iload_n 1, 1) := by decide +kernel
theorem dJ9_max_7cf53_2 : decode cJ9_max_7cf53 2 = .ok (.if_icmp .lt 7, 3) := by decide +kernel
theorem dJ9_max_7cf53_5 : decode cJ9_max_7cf53 5 = .ok (.iload_n 0, 1) := by decide +kernel
theorem dJ9_max_7cf53_6 : decode cJ9_max_7cf53 6 = .ok (.goto 4, 3) := by decide +kernel
theorem dJ9_max_7cf53_9 : decode cJ9_max_7cf53 9 = .ok (.iload_n 1, 1) := by decide +kernel
theorem dJ9_max_7cf53_10 : decode cJ9_max_7cf53 10 = .ok (.ireturn, 1) := by decide +kernel
theorem dJ9_min_7cf53_0 : decode cJ9_min_7cf53 0 = .ok (.iload_n 0, 1) := by decide +kernel
theorem dJ9_min_7cf53_1 : decode cJ9_min_7cf53 1 = .ok (.iload_n 1, 1) := by decide +kernel
theorem dJ9_min_7cf53_2 : decode cJ9_min_7cf53 2 = .ok (.if_icmp .gt 7, 3) := by decide +kernel
theorem dJ9_min_7cf53_5 : decode cJ9_min_7cf53 5 = .ok (.iload_n 0, 1) := by decide +kernel
theorem dJ9_min_7cf53_6 : decode cJ9_min_7cf53 6 = .ok (.goto 4, 3) := by decide +kernel
theorem dJ9_min_7cf53_9 : decode cJ9_min_7cf53 9 = .ok (.iload_n 1, 1) := by decide +kernel
theorem dJ9_min_7cf53_10 : decode cJ9_min_7cf53 10 = .ok (.ireturn, 1) := by decide +kernel
theorem dL_cell_0 : decode cL_cell 0 = .ok (.iload_n 1, 1) := by decide +kernel
theorem dL_cell_1 : decode cL_cell 1 = .ok (.aload_n 0, 1) := by decide +kernel
theorem dL_cell_2 : decode cL_cell 2 = .ok (.arraylength, 1) := by decide +kernel
theorem dL_cell_3 : decode cL_cell 3 = .ok (.if_icmp .ge 9, 3) := by decide +kernel
theorem dL_cell_6 : decode cL_cell 6 = .ok (.aload_n 0, 1) := by decide +kernel
theorem dL_cell_7 : decode cL_cell 7 = .ok (.iload_n 1, 1) := by decide +kernel
theorem dL_cell_8 : decode cL_cell 8 = .ok (.iaload, 1) := by decide +kernel
theorem dL_cell_9 : decode cL_cell 9 = .ok (.goto 4, 3) := by decide +kernel
theorem dL_cell_12 : decode cL_cell 12 = .ok (.iconst 0, 1) := by decide +kernel
theorem dL_cell_13 : decode cL_cell 13 = .ok (.ireturn, 1) := by decide +kernel
set_option maxRecDepth 20000 in
theorem ggL_add_X2_add : GoodIn wsL_add wsX2_add := goodIn_ca (goodIn_ca (goodIn_ca (goodIn_r _ [8, 9, 10, 11, 12, 13, 14, 15, 16, 17, 7, 18, 19, 20, 21, 22, 23, 24, 25, 26, 27, 28, 29, 30, 31, 32, 33, 34, 35, 36, 37] (by decide +kernel) (by decide +kernel)) (goodIn_sub (fun _ h => List.mem_cons_of_mem _ (List.mem_append_left _ (List.mem_append_left _ (List.mem_append_right _ h)))) (by decide +kernel))) (goodIn_sub (fun _ h => List.mem_cons_of_mem _ (List.mem_append_left _ (List.mem_append_right _ h))) (by decide +kernel))) (goodIn_sub (fun _ h => List.mem_cons_of_mem _ (List.mem_append_right _ h)) (by decide +kernel))
set_option maxRecDepth 20000 in
theorem gL_add_X2_add : GoodIn wsL_add (wsV RL 7 RX2 yX2_add wsX2_add) := goodIn_app (goodIn_of _ (by decide +kernel)) ggL_add_X2_add
theorem dL_add_0 : decode cL_add 0 = .ok (.aload_n 2, 1) := by decide +kernel
theorem dL_add_1 : decode cL_add 1 = .ok (.iconst 0, 1) := by decide +kernel
theorem dL_add_2 : decode cL_add 2 = .ok (.aload_n 0, 1) := by decide +kernel
theorem dL_add_3 : decode cL_add 3 = .ok (.iload_n 1, 1) := by decide +kernel
theorem dL_add_4 : decode cL_add 4 = .ok (.invokevirtual 7, 3) := by decide +kernel
theorem dL_add_7 : decode cL_add 7 = .ok (.i2l, 1) := by decide +kernel
theorem dL_add_8 : decode cL_add 8 = .ok (.lastore, 1) := by decide +kernel
theorem dL_add_9 : decode cL_add 9 = .ok (.goto 12, 3) := by decide +kernel
theorem dL_add_12 : decode cL_add 12 = .ok (.astore_n 3, 1) := by decide +kernel
theorem dL_add_13 : decode cL_add 13 = .ok (.iconst 1, 1) := by decide +kernel
theorem dL_add_14 : decode cL_add 14 = .ok (.ireturn, 1) := by decide +kernel
theorem dL_add_15 : decode cL_add 15 = .ok (.astore_n 3, 1) := by decide +kernel
theorem dL_add_16 : decode cL_add 16 = .ok (.iconst 2, 1) := by decide +kernel
theorem dL_add_17 : decode cL_add 17 = .ok (.ireturn, 1) := by decide +kernel
theorem dL_add_18 : decode cL_add 18 = .ok (.astore_n 3, 1) := by decide +kernel
theorem dL_add_19 : decode cL_add 19 = .ok (.iconst 3, 1) := by decide +kernel
theorem dL_add_20 : decode cL_add 20 = .ok (.ireturn, 1) := by decide +kernel
theorem dL_add_21 : decode cL_add 21 = .ok (.iconst 0, 1) := by decide +kernel
theorem dL_add_22 : decode cL_add 22 = .ok (.ireturn, 1) := by decide +kernel
set_option maxRecDepth 20000 in
theorem ggL_end_X2_end : GoodIn wsL_end wsX2_end := goodIn_ca (goodIn_ca (goodIn_ca (goodIn_r _ [8, 9, 10, 11, 12, 13, 14, 15, 16, 7, 17, 18, 19, 20, 21, 22, 23, 24, 25, 26, 27, 28, 29, 30, 31, 32, 33, 34, 35, 36, 37, 38, 39, 40, 41, 42, 43, 44, 45, 46, 47, 48, 49, 50, 51, 52, 53, 54, 55, 56, 57, 58, 59, 60, 61, 62, 63, 64, 65, 66, 67, 68, 69, 70, 71, 72, 73, 74, 75, 76, 77, 78, 79, 80, 81, 82, 83, 84, 85, 86, 87, 88, 89, 90, 91, 92, 93, 94, 95, 96, 97] (by decide +kernel) (by decide +kernel)) (goodIn_sub (fun _ h => List.mem_cons_of_mem _ (List.mem_append_left _ (List.mem_append_left _ (List.mem_append_right _ h)))) (by decide +kernel))) (goodIn_sub (fun _ h => List.mem_cons_of_mem _ (List.mem_append_left _ (List.mem_append_right _ h))) (by decide +kernel))) (goodIn_sub (fun _ h => List.mem_cons_of_mem _ (List.mem_append_right _ h)) (by decide +kernel))
set_option maxRecDepth 20000 in
theorem gL_end_X2_end : GoodIn wsL_end (wsV RL 19 RX2 yX2_end wsX2_end) := goodIn_app (goodIn_of _ (by decide +kernel)) ggL_end_X2_end
theorem dL_end_0 : decode cL_end 0 = .ok (.aload_n 2, 1) := by decide +kernel
theorem dL_end_1 : decode cL_end 1 = .ok (.iconst 0, 1) := by decide +kernel
theorem dL_end_2 : decode cL_end 2 = .ok (.aload_n 0, 1) := by decide +kernel
theorem dL_end_3 : decode cL_end 3 = .ok (.iload_n 1, 1) := by decide +kernel
theorem dL_end_4 : decode cL_end 4 = .ok (.invokevirtual 19, 3) := by decide +kernel
theorem dL_end_7 : decode cL_end 7 = .ok (.i2l, 1) := by decide +kernel
theorem dL_end_8 : decode cL_end 8 = .ok (.lastore, 1) := by decide +kernel
theorem dL_end_9 : decode cL_end 9 = .ok (.goto 12, 3) := by decide +kernel
theorem dL_end_12 : decode cL_end 12 = .ok (.astore_n 3, 1) := by decide +kernel
theorem dL_end_13 : decode cL_end 13 = .ok (.iconst 1, 1) := by decide +kernel
theorem dL_end_14 : decode cL_end 14 = .ok (.ireturn, 1) := by decide +kernel
theorem dL_end_15 : decode cL_end 15 = .ok (.astore_n 3, 1) := by decide +kernel
theorem dL_end_16 : decode cL_end 16 = .ok (.iconst 2, 1) := by decide +kernel
theorem dL_end_17 : decode cL_end 17 = .ok (.ireturn, 1) := by decide +kernel
theorem dL_end_18 : decode cL_end 18 = .ok (.astore_n 3, 1) := by decide +kernel
theorem dL_end_19 : decode cL_end 19 = .ok (.iconst 3, 1) := by decide +kernel
theorem dL_end_20 : decode cL_end 20 = .ok (.ireturn, 1) := by decide +kernel
theorem dL_end_21 : decode cL_end 21 = .ok (.iconst 0, 1) := by decide +kernel
theorem dL_end_22 : decode cL_end 22 = .ok (.ireturn, 1) := by decide +kernel
set_option maxRecDepth 20000 in
theorem ggL_whole_X2_whole : GoodIn wsL_whole wsX2_whole := goodIn_ca (goodIn_ca (goodIn_r _ [7, 8, 9, 10, 11, 6, 12, 13, 14, 15, 16, 17, 18, 19, 20, 21, 22, 23, 24, 25, 26, 27, 28, 29, 30, 31, 32, 33, 34, 35, 36, 37, 38, 39, 40, 41, 42, 43, 44, 45, 46, 47, 48, 49, 50, 51, 52, 53, 54, 55, 56, 57, 58, 59, 60, 61, 62, 63, 64, 65, 66, 67, 68, 69, 70, 71, 72, 73, 74, 75, 76, 77, 78, 79, 80, 81, 82, 83, 84, 85, 86, 87, 88, 89, 90, 91, 92, 93, 94] (by decide +kernel) (by decide +kernel)) (goodIn_sub (fun _ h => List.mem_cons_of_mem _ (List.mem_append_left _ (List.mem_append_right _ h))) (by decide +kernel))) (goodIn_sub (fun _ h => List.mem_cons_of_mem _ (List.mem_append_right _ h)) (by decide +kernel))
set_option maxRecDepth 20000 in
theorem gL_whole_X2_whole : GoodIn wsL_whole (wsV RL 22 RX2 yX2_whole wsX2_whole) := goodIn_app (goodIn_of _ (by decide +kernel)) ggL_whole_X2_whole
theorem dL_whole_0 : decode cL_whole 0 = .ok (.aload_n 1, 1) := by decide +kernel
theorem dL_whole_1 : decode cL_whole 1 = .ok (.iconst 0, 1) := by decide +kernel
theorem dL_whole_2 : decode cL_whole 2 = .ok (.aload_n 0, 1) := by decide +kernel
theorem dL_whole_3 : decode cL_whole 3 = .ok (.invokevirtual 22, 3) := by decide +kernel
theorem dL_whole_6 : decode cL_whole 6 = .ok (.i2l, 1) := by decide +kernel
theorem dL_whole_7 : decode cL_whole 7 = .ok (.lastore, 1) := by decide +kernel
theorem dL_whole_8 : decode cL_whole 8 = .ok (.goto 9, 3) := by decide +kernel
theorem dL_whole_11 : decode cL_whole 11 = .ok (.astore_n 2, 1) := by decide +kernel
theorem dL_whole_12 : decode cL_whole 12 = .ok (.iconst 1, 1) := by decide +kernel
theorem dL_whole_13 : decode cL_whole 13 = .ok (.ireturn, 1) := by decide +kernel
theorem dL_whole_14 : decode cL_whole 14 = .ok (.astore_n 2, 1) := by decide +kernel
theorem dL_whole_15 : decode cL_whole 15 = .ok (.iconst 2, 1) := by decide +kernel
theorem dL_whole_16 : decode cL_whole 16 = .ok (.ireturn, 1) := by decide +kernel
theorem dL_whole_17 : decode cL_whole 17 = .ok (.iconst 0, 1) := by decide +kernel
theorem dL_whole_18 : decode cL_whole 18 = .ok (.ireturn, 1) := by decide +kernel
set_option maxRecDepth 20000 in
theorem ggL_sync_X2_sync : GoodIn wsL_sync wsX2_sync := goodIn_ca (goodIn_r _ [6, 7, 8, 9, 10, 11, 5, 12, 13, 14, 15, 16, 17, 18, 19, 20, 21, 22, 23, 24, 25, 26, 27, 28, 29, 30, 31, 32, 33, 34, 35, 36, 37, 38, 39, 40, 41, 42, 43, 44, 45, 46, 47, 48, 49, 50, 51, 52, 53, 54, 55, 56] (by decide +kernel) (by decide +kernel)) (goodIn_sub (fun _ h => List.mem_cons_of_mem _ (List.mem_append_right _ h)) (by decide +kernel))
set_option maxRecDepth 20000 in
theorem gL_sync_X2_sync : GoodIn wsL_sync (wsV RL 26 RX2 yX2_sync wsX2_sync) := goodIn_app (goodIn_of _ (by decide +kernel)) ggL_sync_X2_sync
theorem dL_sync_0 : decode cL_sync 0 = .ok (.aload_n 1, 1) := by decide +kernel
theorem dL_sync_1 : decode cL_sync 1 = .ok (.iconst 0, 1) := by decide +kernel
theorem dL_sync_2 : decode cL_sync 2 = .ok (.aload_n 0, 1) := by decide +kernel
theorem dL_sync_3 : decode cL_sync 3 = .ok (.invokevirtual 26, 3) := by decide +kernel
theorem dL_sync_6 : decode cL_sync 6 = .ok (.i2l, 1) := by decide +kernel
theorem dL_sync_7 : decode cL_sync 7 = .ok (.lastore, 1) := by decide +kernel
theorem dL_sync_8 : decode cL_sync 8 = .ok (.goto 6, 3) := by decide +kernel
theorem dL_sync_11 : decode cL_sync 11 = .ok (.astore_n 2, 1) := by decide +kernel
theorem dL_sync_12 : decode cL_sync 12 = .ok (.iconst 1, 1) := by decide +kernel
theorem dL_sync_13 : decode cL_sync 13 = .ok (.ireturn, 1) := by decide +kernel
theorem dL_sync_14 : decode cL_sync 14 = .ok (.iconst 0, 1) := by decide +kernel
theorem dL_sync_15 : decode cL_sync 15 = .ok (.ireturn, 1) := by decide +kernel
set_option maxRecDepth 20000 in
theorem ggL_cut_X2_cut : GoodIn wsL_cut wsX2_cut := goodIn_ca (goodIn_ca (goodIn_r _ [7, 8, 9, 10, 11, 12, 13, 14, 15, 16, 17, 18, 19, 20, 21, 22, 23, 6, 24, 25, 26, 27, 28, 29, 30, 31, 32, 33, 34, 35, 36, 37, 38, 39, 40, 41, 42, 43, 44, 45, 46, 47, 48, 49, 50, 51, 52, 53, 54, 55, 56, 57, 58, 59, 60, 61, 62, 63, 64, 65, 66, 67, 68, 69, 70, 71, 72, 73, 74, 75] (by decide +kernel) (by decide +kernel)) (goodIn_sub (fun _ h => List.mem_cons_of_mem _ (List.mem_append_left _ (List.mem_append_right _ h))) (by decide +kernel))) (goodIn_sub (fun _ h => List.mem_cons_of_mem _ (List.mem_append_right _ h)) (by decide +kernel))
set_option maxRecDepth 20000 in
theorem gL_cut_X2_cut : GoodIn wsL_cut (wsV RL 29 RX2 yX2_cut wsX2_cut) := goodIn_app (goodIn_of _ (by decide +kernel)) ggL_cut_X2_cut
theorem dL_cut_0 : decode cL_cut 0 = .ok (.aload_n 0, 1) := by decide +kernel
theorem dL_cut_1 : decode cL_cut 1 = .ok (.iload_n 1, 1) := by decide +kernel
theorem dL_cut_2 : decode cL_cut 2 = .ok (.iload_n 2, 1) := by decide +kernel
theorem dL_cut_3 : decode cL_cut 3 = .ok (.invokevirtual 29, 3) := by decide +kernel
theorem dL_cut_6 : decode cL_cut 6 = .ok (.goto 9, 3) := by decide +kernel
theorem dL_cut_9 : decode cL_cut 9 = .ok (.astore_n 3, 1) := by decide +kernel
theorem dL_cut_10 : decode cL_cut 10 = .ok (.iconst 1, 1) := by decide +kernel
theorem dL_cut_11 : decode cL_cut 11 = .ok (.ireturn, 1) := by decide +kernel
theorem dL_cut_12 : decode cL_cut 12 = .ok (.astore_n 3, 1) := by decide +kernel
theorem dL_cut_13 : decode cL_cut 13 = .ok (.iconst 2, 1) := by decide +kernel
theorem dL_cut_14 : decode cL_cut 14 = .ok (.ireturn, 1) := by decide +kernel
theorem dL_cut_15 : decode cL_cut 15 = .ok (.iconst 0, 1) := by decide +kernel
theorem dL_cut_16 : decode cL_cut 16 = .ok (.ireturn, 1) := by decide +kernel
set_option maxRecDepth 20000 in
theorem ggL_poke_X2_poke : GoodIn wsL_poke wsX2_poke := goodIn_ca (goodIn_r _ [6, 7, 8, 9, 10, 11, 12, 5, 13, 14, 15, 16, 17, 18, 19, 20, 21, 22, 23, 24, 25, 26, 27, 28, 29, 30, 31, 32, 33, 34, 35, 36, 37, 38, 39, 40, 41, 42, 43] (by decide +kernel) (by decide +kernel)) (goodIn_sub (fun _ h => List.mem_cons_of_mem _ (List.mem_append_right _ h)) (by decide +kernel))
set_option maxRecDepth 20000 in
theorem gL_poke_X2_poke : GoodIn wsL_poke (wsV RL 33 RX2 yX2_poke wsX2_poke) := goodIn_app (goodIn_of _ (by decide +kernel)) ggL_poke_X2_poke
theorem dL_poke_0 : decode cL_poke 0 = .ok (.aload 4, 2) := by decide +kernel
theorem dL_poke_2 : decode cL_poke 2 = .ok (.iconst 0, 1) := by decide +kernel
theorem dL_poke_3 : decode cL_poke 3 = .ok (.aload_n 0, 1) := by decide +kernel
theorem dL_poke_4 : decode cL_poke 4 = .ok (.iload_n 1, 1) := by decide +kernel
theorem dL_poke_5 : decode cL_poke 5 = .ok (.iload_n 2, 1) := by decide +kernel
theorem dL_poke_6 : decode cL_poke 6 = .ok (.iload_n 3, 1) := by decide +kernel
theorem dL_poke_7 : decode cL_poke 7 = .ok (.invokevirtual 33, 3) := by decide +kernel
theorem dL_poke_10 : decode cL_poke 10 = .ok (.i2l, 1) := by decide +kernel
theorem dL_poke_11 : decode cL_poke 11 = .ok (.lastore, 1) := by decide +kernel
theorem dL_poke_12 : decode cL_poke 12 = .ok (.goto 11, 3) := by decide +kernel
theorem dL_poke_15 : decode cL_poke 15 = .ok (.astore 5, 2) := by decide +kernel
theorem dL_poke_17 : decode cL_poke 17 = .ok (.iconst 1, 1) := by decide +kernel
theorem dL_poke_18 : decode cL_poke 18 = .ok (.ireturn, 1) := by decide +kernel
theorem dL_poke_19 : decode cL_poke 19 = .ok (.astore 5, 2) := by decide +kernel
theorem dL_poke_21 : decode cL_poke 21 = .ok (.iconst 2, 1) := by decide +kernel
theorem dL_poke_22 : decode cL_poke 22 = .ok (.ireturn, 1) := by decide +kernel
theorem dL_poke_23 : decode cL_poke 23 = .ok (.iconst 0, 1) := by decide +kernel
theorem dL_poke_24 : decode cL_poke 24 = .ok (.ireturn, 1) := by decide +kernel
set_option maxRecDepth 20000 in
theorem ggL_byteOf_X2_byteOf : GoodIn wsL_byteOf wsX2_byteOf := goodIn_r _ [5, 6, 7, 8, 9, 4, 10, 11, 12, 13, 14, 15, 16, 17, 18, 19, 20, 21, 22, 23, 24, 25, 26, 27, 28, 29, 30, 31, 32, 33, 34, 35, 36] (by decide +kernel) (by decide +kernel)
set_option maxRecDepth 20000 in
theorem gL_byteOf_X2_byteOf : GoodIn wsL_byteOf (wsV RL 39 RX2 yX2_byteOf wsX2_byteOf) := goodIn_app (goodIn_of _ (by decide +kernel)) ggL_byteOf_X2_byteOf
theorem dL_byteOf_0 : decode cL_byteOf 0 = .ok (.aload_n 3, 1) := by decide +kernel
theorem dL_byteOf_1 : decode cL_byteOf 1 = .ok (.iconst 0, 1) := by decide +kernel
theorem dL_byteOf_2 : decode cL_byteOf 2 = .ok (.aload_n 0, 1) := by decide +kernel
theorem dL_byteOf_3 : decode cL_byteOf 3 = .ok (.iload_n 1, 1) := by decide +kernel
theorem dL_byteOf_4 : decode cL_byteOf 4 = .ok (.iload_n 2, 1) := by decide +kernel
theorem dL_byteOf_5 : decode cL_byteOf 5 = .ok (.invokevirtual 39, 3) := by decide +kernel
theorem dL_byteOf_8 : decode cL_byteOf 8 = .ok (.i2l, 1) := by decide +kernel
theorem dL_byteOf_9 : decode cL_byteOf 9 = .ok (.lastore, 1) := by decide +kernel
theorem dL_byteOf_10 : decode cL_byteOf 10 = .ok (.goto 7, 3) := by decide +kernel
theorem dL_byteOf_13 : decode cL_byteOf 13 = .ok (.astore 4, 2) := by decide +kernel
theorem dL_byteOf_15 : decode cL_byteOf 15 = .ok (.iconst 1, 1) := by decide +kernel
theorem dL_byteOf_16 : decode cL_byteOf 16 = .ok (.ireturn, 1) := by decide +kernel
theorem dL_byteOf_17 : decode cL_byteOf 17 = .ok (.iconst 0, 1) := by decide +kernel
theorem dL_byteOf_18 : decode cL_byteOf 18 = .ok (.ireturn, 1) := by decide +kernel
set_option maxRecDepth 20000 in
theorem ggL_row_X2_row : GoodIn wsL_row wsX2_row := goodIn_ca (goodIn_ca (goodIn_r _ [7, 8, 9, 10, 11, 12, 13, 14, 15, 16, 17, 18, 19, 20, 21, 6, 22, 23, 24, 25, 26, 27, 28, 29, 30, 31, 32, 33, 34, 35, 36, 37, 38, 39, 40, 41, 42, 43, 44, 45, 46, 47, 48, 49, 50, 51, 52, 53, 54, 55, 56, 57, 58, 59, 60] (by decide +kernel) (by decide +kernel)) (goodIn_sub (fun _ h => List.mem_cons_of_mem _ (List.mem_append_left _ (List.mem_append_right _ h))) (by decide +kernel))) (goodIn_sub (fun _ h => List.mem_cons_of_mem _ (List.mem_append_right _ h)) (by decide +kernel))
set_option maxRecDepth 20000 in
theorem gL_row_X2_row : GoodIn wsL_row (wsV RL 43 RX2 yX2_row wsX2_row) := goodIn_app (goodIn_of _ (by decide +kernel)) ggL_row_X2_row
theorem dL_row_0 : decode cL_row 0 = .ok (.aload_n 3, 1) := by decide +kernel
theorem dL_row_1 : decode cL_row 1 = .ok (.iconst 0, 1) := by decide +kernel
theorem dL_row_2 : decode cL_row 2 = .ok (.aload_n 0, 1) := by decide +kernel
theorem dL_row_3 : decode cL_row 3 = .ok (.iload_n 1, 1) := by decide +kernel
theorem dL_row_4 : decode cL_row 4 = .ok (.iload_n 2, 1) := by decide +kernel
theorem dL_row_5 : decode cL_row 5 = .ok (.invokevirtual 43, 3) := by decide +kernel
theorem dL_row_8 : decode cL_row 8 = .ok (.i2l, 1) := by decide +kernel
theorem dL_row_9 : decode cL_row 9 = .ok (.lastore, 1) := by decide +kernel
theorem dL_row_10 : decode cL_row 10 = .ok (.goto 11, 3) := by decide +kernel
theorem dL_row_13 : decode cL_row 13 = .ok (.astore 4, 2) := by decide +kernel
theorem dL_row_15 : decode cL_row 15 = .ok (.iconst 1, 1) := by decide +kernel
theorem dL_row_16 : decode cL_row 16 = .ok (.ireturn, 1) := by decide +kernel
theorem dL_row_17 : decode cL_row 17 = .ok (.astore 4, 2) := by decide +kernel
theorem dL_row_19 : decode cL_row 19 = .ok (.iconst 2, 1) := by decide +kernel
theorem dL_row_20 : decode cL_row 20 = .ok (.ireturn, 1) := by decide +kernel
theorem dL_row_21 : decode cL_row 21 = .ok (.iconst 0, 1) := by decide +kernel
theorem dL_row_22 : decode cL_row 22 = .ok (.ireturn, 1) := by decide +kernel
set_option maxRecDepth 20000 in
theorem ggL_find_X2_find : GoodIn wsL_find wsX2_find := goodIn_ca (goodIn_r _ [6, 7, 8, 9, 10, 11, 12, 5, 13, 14, 15, 16, 17, 18, 19, 20, 21, 22, 23, 24, 25, 26, 27, 28, 29, 30, 31, 32, 33, 34, 35, 36, 37, 38, 39, 40, 41, 42, 43, 44, 45, 46, 47, 48, 49, 50, 51, 52] (by decide +kernel) (by decide +kernel)) (goodIn_sub (fun _ h => List.mem_cons_of_mem _ (List.mem_append_right _ h)) (by decide +kernel))
set_option maxRecDepth 20000 in
theorem gL_find_X2_find : GoodIn wsL_find (wsV RL 48 RX2 yX2_find wsX2_find) := goodIn_app (goodIn_of _ (by decide +kernel)) ggL_find_X2_find
theorem dL_find_0 : decode cL_find 0 = .ok (.aload_n 3, 1) := by decide +kernel
theorem dL_find_1 : decode cL_find 1 = .ok (.iconst 0, 1) := by decide +kernel
theorem dL_find_2 : decode cL_find 2 = .ok (.aload_n 0, 1) := by decide +kernel
theorem dL_find_3 : decode cL_find 3 = .ok (.iload_n 1, 1) := by decide +kernel
theorem dL_find_4 : decode cL_find 4 = .ok (.iload_n 2, 1) := by decide +kernel
theorem dL_find_5 : decode cL_find 5 = .ok (.invokevirtual 48, 3) := by decide +kernel
theorem dL_find_8 : decode cL_find 8 = .ok (.i2l, 1) := by decide +kernel
theorem dL_find_9 : decode cL_find 9 = .ok (.lastore, 1) := by decide +kernel
theorem dL_find_10 : decode cL_find 10 = .ok (.goto 7, 3) := by decide +kernel
theorem dL_find_13 : decode cL_find 13 = .ok (.astore 4, 2) := by decide +kernel
theorem dL_find_15 : decode cL_find 15 = .ok (.iconst 1, 1) := by decide +kernel
theorem dL_find_16 : decode cL_find 16 = .ok (.ireturn, 1) := by decide +kernel
theorem dL_find_17 : decode cL_find 17 = .ok (.iconst 0, 1) := by decide +kernel
theorem dL_find_18 : decode cL_find 18 = .ok (.ireturn, 1) := by decide +kernel
set_option maxRecDepth 20000 in
theorem ggL_backup_X2_backup : GoodIn wsL_backup wsX2_backup := goodIn_ca (goodIn_r _ [6, 7, 8, 9, 10, 11, 12, 13, 5, 14, 15, 16, 17, 18, 19, 20, 21, 22, 23, 24, 25, 26, 27, 28, 29, 30, 31, 32, 33, 34, 35, 36, 37, 38, 39, 40, 41, 42, 43, 44, 45, 46, 47, 48, 49, 50, 51, 52, 53] (by decide +kernel) (by decide +kernel)) (goodIn_sub (fun _ h => List.mem_cons_of_mem _ (List.mem_append_right _ h)) (by decide +kernel))
set_option maxRecDepth 20000 in
theorem gL_backup_X2_backup : GoodIn wsL_backup (wsV RL 51 RX2 yX2_backup wsX2_backup) := goodIn_app (goodIn_of _ (by decide +kernel)) ggL_backup_X2_backup
theorem dL_backup_0 : decode cL_backup 0 = .ok (.aload_n 1, 1) := by decide +kernel
theorem dL_backup_1 : decode cL_backup 1 = .ok (.iconst 0, 1) := by decide +kernel
theorem dL_backup_2 : decode cL_backup 2 = .ok (.aload_n 0, 1) := by decide +kernel
theorem dL_backup_3 : decode cL_backup 3 = .ok (.invokevirtual 51, 3) := by decide +kernel
theorem dL_backup_6 : decode cL_backup 6 = .ok (.i2l, 1) := by decide +kernel
theorem dL_backup_7 : decode cL_backup 7 = .ok (.lastore, 1) := by decide +kernel
theorem dL_backup_8 : decode cL_backup 8 = .ok (.goto 6, 3) := by decide +kernel
theorem dL_backup_11 : decode cL_backup 11 = .ok (.astore_n 2, 1) := by decide +kernel
theorem dL_backup_12 : decode cL_backup 12 = .ok (.iconst 1, 1) := by decide +kernel
theorem dL_backup_13 : decode cL_backup 13 = .ok (.ireturn, 1) := by decide +kernel
theorem dL_backup_14 : decode cL_backup 14 = .ok (.iconst 0, 1) := by decide +kernel
theorem dL_backup_15 : decode cL_backup 15 = .ok (.ireturn, 1) := by decide +kernel
set_option maxRecDepth 20000 in
theorem ggL_restore_X2_restore : GoodIn wsL_restore wsX2_restore := goodIn_ca (goodIn_r _ [6, 7, 8, 9, 10, 11, 12, 13, 14, 15, 16, 17, 18, 19, 20, 21, 22, 23, 24, 25, 26, 27, 28, 29, 30, 31, 32, 5, 33, 34, 35, 36, 37, 38, 39, 40, 41, 42, 43, 44, 45, 46, 47, 48, 49, 50, 51, 52, 53, 54, 55, 56, 57, 58, 59, 60, 61, 62, 63, 64, 65, 66, 67, 68, 69, 70, 71, 72, 73, 74, 75, 76, 77, 78, 79, 80, 81, 82, 83, 84, 85, 86, 87, 88, 89, 90, 91, 92, 93, 94, 95, 96, 97, 98, 99, 100, 101, 102, 103, 104, 105, 106, 107, 108, 109, 110, 111, 112, 113, 114, 115, 116, 117] (by decide +kernel) (by decide +kernel)) (goodIn_sub (fun _ h => List.mem_cons_of_mem _ (List.mem_append_right _ h)) (by decide +kernel))
set_option maxRecDepth 20000 in
theorem gL_restore_X2_restore : GoodIn wsL_restore (wsV RL 54 RX2 yX2_restore wsX2_restore) := goodIn_app (goodIn_of _ (by decide +kernel)) ggL_restore_X2_restore
theorem dL_restore_0 : decode cL_restore 0 = .ok (.aload_n 1, 1) := by decide +kernel
theorem dL_restore_1 : decode cL_restore 1 = .ok (.iconst 0, 1) := by decide +kernel
theorem dL_restore_2 : decode cL_restore 2 = .ok (.aload_n 0, 1) := by decide +kernel
theorem dL_restore_3 : decode cL_restore 3 = .ok (.invokevirtual 54, 3) := by decide +kernel
theorem dL_restore_6 : decode cL_restore 6 = .ok (.i2l, 1) := by decide +kernel
theorem dL_restore_7 : decode cL_restore 7 = .ok (.lastore, 1) := by decide +kernel
theorem dL_restore_8 : decode cL_restore 8 = .ok (.goto 6, 3) := by decide +kernel
theorem dL_restore_11 : decode cL_restore 11 = .ok (.astore_n 2, 1) := by decide +kernel
theorem dL_restore_12 : decode cL_restore 12 = .ok (.iconst 1, 1) := by decide +kernel
theorem dL_restore_13 : decode cL_restore 13 = .ok (.ireturn, 1) := by decide +kernel
theorem dL_restore_14 : decode cL_restore 14 = .ok (.iconst 0, 1) := by decide +kernel
theorem dL_restore_15 : decode cL_restore 15 = .ok (.ireturn, 1) := by decide +kernel
set_option maxRecDepth 20000 in
theorem ggL_total_X2_total : GoodIn wsL_total wsX2_total := goodIn_ca (goodIn_r _ [6, 7, 8, 9, 10, 11, 12, 13, 14, 15, 16, 17, 5, 18, 19, 20, 21, 22, 23, 24, 25, 26, 27, 28, 29, 30, 31, 32, 33, 34, 35, 36, 37, 38, 39, 40, 41, 42, 43, 44, 45, 46, 47, 48, 49, 50, 51, 52, 53, 54, 55, 56, 57, 58, 59, 60, 61, 62, 63, 64, 65, 66] (by decide +kernel) (by decide +kernel)) (goodIn_sub (fun _ h => List.mem_cons_of_mem _ (List.mem_append_right _ h)) (by decide +kernel))
set_option maxRecDepth 20000 in
theorem gL_total_X2_total : GoodIn wsL_total (wsV RL 57 RX2 yX2_total wsX2_total) := goodIn_app (goodIn_of _ (by decide +kernel)) ggL_total_X2_total
theorem dL_total_0 : decode cL_total 0 = .ok (.aload 4, 2) := by decide +kernel
theorem dL_total_2 : decode cL_total 2 = .ok (.iconst 0, 1) := by decide +kernel
theorem dL_total_3 : decode cL_total 3 = .ok (.aload_n 0, 1) := by decide +kernel
theorem dL_total_4 : decode cL_total 4 = .ok (.iload_n 1, 1) := by decide +kernel
theorem dL_total_5 : decode cL_total 5 = .ok (.iload_n 2, 1) := by decide +kernel
theorem dL_total_6 : decode cL_total 6 = .ok (.iload_n 3, 1) := by decide +kernel
theorem dL_total_7 : decode cL_total 7 = .ok (.invokevirtual 57, 3) := by decide +kernel
theorem dL_total_10 : decode cL_total 10 = .ok (.i2l, 1) := by decide +kernel
theorem dL_total_11 : decode cL_total 11 = .ok (.lastore, 1) := by decide +kernel
theorem dL_total_12 : decode cL_total 12 = .ok (.goto 7, 3) := by decide +kernel
theorem dL_total_15 : decode cL_total 15 = .ok (.astore 5, 2) := by decide +kernel
theorem dL_total_17 : decode cL_total 17 = .ok (.iconst 1, 1) := by decide +kernel
theorem dL_total_18 : decode cL_total 18 = .ok (.ireturn, 1) := by decide +kernel
theorem dL_total_19 : decode cL_total 19 = .ok (.iconst 0, 1) := by decide +kernel
theorem dL_total_20 : decode cL_total 20 = .ok (.ireturn, 1) := by decide +kernel
theorem dL_law_0 : decode cL_law 0 = .ok (.new 8, 3) := by decide +kernel
theorem dL_law_3 : decode cL_law 3 = .ok (.dup, 1) := by decide +kernel
theorem dL_law_4 : decode cL_law 4 = .ok (.aload_n 0, 1) := by decide +kernel
theorem dL_law_5 : decode cL_law 5 = .ok (.iconst 0, 1) := by decide +kernel
theorem dL_law_6 : decode cL_law 6 = .ok (.invokestatic 60, 3) := by decide +kernel
theorem dL_law_9 : decode cL_law 9 = .ok (.invokespecial 66, 3) := by decide +kernel
theorem dL_law_12 : decode cL_law 12 = .ok (.astore_n 1, 1) := by decide +kernel
theorem dL_law_13 : decode cL_law 13 = .ok (.new 69, 3) := by decide +kernel
theorem dL_law_16 : decode cL_law 16 = .ok (.dup, 1) := by decide +kernel
theorem dL_law_17 : decode cL_law 17 = .ok (.aload_n 0, 1) := by decide +kernel
theorem dL_law_18 : decode cL_law 18 = .ok (.iconst 0, 1) := by decide +kernel
theorem dL_law_19 : decode cL_law 19 = .ok (.invokestatic 60, 3) := by decide +kernel
theorem dL_law_22 : decode cL_law 22 = .ok (.invokespecial 71, 3) := by decide +kernel
theorem dL_law_25 : decode cL_law 25 = .ok (.astore_n 2, 1) := by decide +kernel
theorem dL_law_26 : decode cL_law 26 = .ok (.iconst 1, 1) := by decide +kernel
theorem dL_law_27 : decode cL_law 27 = .ok (.newarray .long, 2) := by decide +kernel
theorem dL_law_29 : decode cL_law 29 = .ok (.astore_n 3, 1) := by decide +kernel
theorem dL_law_30 : decode cL_law 30 = .ok (.iconst 1, 1) := by decide +kernel
theorem dL_law_31 : decode cL_law 31 = .ok (.istore 4, 2) := by decide +kernel
theorem dL_law_33 : decode cL_law 33 = .ok (.iload 4, 2) := by decide +kernel
theorem dL_law_35 : decode cL_law 35 = .ok (.aload_n 0, 1) := by decide +kernel
theorem dL_law_36 : decode cL_law 36 = .ok (.arraylength, 1) := by decide +kernel
theorem dL_law_37 : decode cL_law 37 = .ok (.iconst 4, 1) := by decide +kernel
theorem dL_law_38 : decode cL_law 38 = .ok (.isub, 1) := by decide +kernel
theorem dL_law_39 : decode cL_law 39 = .ok (.if_icmp .gt 842, 3) := by decide +kernel
theorem dL_law_42 : decode cL_law 42 = .ok (.aload_n 0, 1) := by decide +kernel
theorem dL_law_43 : decode cL_law 43 = .ok (.iload 4, 2) := by decide +kernel
theorem dL_law_45 : decode cL_law 45 = .ok (.iaload, 1) := by decide +kernel
theorem dL_law_46 : decode cL_law 46 = .ok (.bipush 15, 2) := by decide +kernel
theorem dL_law_48 : decode cL_law 48 = .ok (.iand, 1) := by decide +kernel
theorem dL_law_49 : decode cL_law 49 = .ok (.tableswitch 826 0 14 #[75, 131, 187, 231, 275, 323, 336, 416, 484, 552, 620, 633, 677, 721, 801], 75) := by decide +kernel
theorem dL_law_124 : decode cL_law 124 = .ok (.aload_n 1, 1) := by decide +kernel
theorem dL_law_125 : decode cL_law 125 = .ok (.aload_n 0, 1) := by decide +kernel
theorem dL_law_126 : decode cL_law 126 = .ok (.iload 4, 2) := by decide +kernel
theorem dL_law_128 : decode cL_law 128 = .ok (.iconst 1, 1) := by decide +kernel
theorem dL_law_129 : decode cL_law 129 = .ok (.iadd, 1) := by decide +kernel
theorem dL_law_130 : decode cL_law 130 = .ok (.iaload, 1) := by decide +kernel
theorem dL_law_131 : decode cL_law 131 = .ok (.aload_n 3, 1) := by decide +kernel
theorem dL_law_132 : decode cL_law 132 = .ok (.invokestatic 72, 3) := by decide +kernel
theorem dL_law_135 : decode cL_law 135 = .ok (.istore 5, 2) := by decide +kernel
theorem dL_law_137 : decode cL_law 137 = .ok (.aload_n 2, 1) := by decide +kernel
theorem dL_law_138 : decode cL_law 138 = .ok (.aload_n 0, 1) := by decide +kernel
theorem dL_law_139 : decode cL_law 139 = .ok (.iload 4, 2) := by decide +kernel
theorem dL_law_141 : decode cL_law 141 = .ok (.iconst 1, 1) := by decide +kernel
theorem dL_law_142 : decode cL_law 142 = .ok (.iadd, 1) := by decide +kernel
theorem dL_law_143 : decode cL_law 143 = .ok (.iaload, 1) := by decide +kernel
theorem dL_law_144 : decode cL_law 144 = .ok (.invokevirtual 75, 3) := by decide +kernel
theorem dL_law_147 : decode cL_law 147 = .ok (.istore 6, 2) := by decide +kernel
theorem dL_law_149 : decode cL_law 149 = .ok (.aload_n 2, 1) := by decide +kernel
theorem dL_law_150 : decode cL_law 150 = .ok (.invokevirtual 76, 3) := by decide +kernel
theorem dL_law_153 : decode cL_law 153 = .ok (.iload 5, 2) := by decide +kernel
theorem dL_law_155 : decode cL_law 155 = .ok (.if_icmp .eq 5, 3) := by decide +kernel
theorem dL_law_158 : decode cL_law 158 = .ok (.iconst 0, 1) := by decide +kernel
theorem dL_law_159 : decode cL_law 159 = .ok (.ireturn, 1) := by decide +kernel
theorem dL_law_160 : decode cL_law 160 = .ok (.iload 5, 2) := by decide +kernel
theorem dL_law_162 : decode cL_law 162 = .ok (.ifCond .ne 15, 3) := by decide +kernel
theorem dL_law_165 : decode cL_law 165 = .ok (.aload_n 3, 1) := by decide +kernel
theorem dL_law_166 : decode cL_law 166 = .ok (.iconst 0, 1) := by decide +kernel
theorem dL_law_167 : decode cL_law 167 = .ok (.laload, 1) := by decide +kernel
theorem dL_law_168 : decode cL_law 168 = .ok (.iload 6, 2) := by decide +kernel
theorem dL_law_170 : decode cL_law 170 = .ok (.i2l, 1) := by decide +kernel
theorem dL_law_171 : decode cL_law 171 = .ok (.lcmp, 1) := by decide +kernel
theorem dL_law_172 : decode cL_law 172 = .ok (.ifCond .eq 5, 3) := by decide +kernel
theorem dL_law_175 : decode cL_law 175 = .ok (.iconst 0, 1) := by decide +kernel
theorem dL_law_176 : decode cL_law 176 = .ok (.ireturn, 1) := by decide +kernel
theorem dL_law_177 : decode cL_law 177 = .ok (.goto 698, 3) := by decide +kernel
theorem dL_law_180 : decode cL_law 180 = .ok (.aload_n 1, 1) := by decide +kernel
theorem dL_law_181 : decode cL_law 181 = .ok (.aload_n 0, 1) := by decide +kernel
theorem dL_law_182 : decode cL_law 182 = .ok (.iload 4, 2) := by decide +kernel
theorem dL_law_184 : decode cL_law 184 = .ok (.iconst 1, 1) := by decide +kernel
theorem dL_law_185 : decode cL_law 185 = .ok (.iadd, 1) := by decide +kernel
theorem dL_law_186 : decode cL_law 186 = .ok (.iaload, 1) := by decide +kernel
theorem dL_law_187 : decode cL_law 187 = .ok (.aload_n 3, 1) := by decide +kernel
theorem dL_law_188 : decode cL_law 188 = .ok (.invokestatic 79, 3) := by decide +kernel
theorem dL_law_191 : decode cL_law 191 = .ok (.istore 5, 2) := by decide +kernel
theorem dL_law_193 : decode cL_law 193 = .ok (.aload_n 2, 1) := by decide +kernel
theorem dL_law_194 : decode cL_law 194 = .ok (.aload_n 0, 1) := by decide +kernel
theorem dL_law_195 : decode cL_law 195 = .ok (.iload 4, 2) := by decide +kernel
theorem dL_law_197 : decode cL_law 197 = .ok (.iconst 1, 1) := by decide +kernel
theorem dL_law_198 : decode cL_law 198 = .ok (.iadd, 1) := by decide +kernel
theorem dL_law_199 : decode cL_law 199 = .ok (.iaload, 1) := by decide +kernel
theorem dL_law_200 : decode cL_law 200 = .ok (.invokevirtual 81, 3) := by decide +kernel
theorem dL_law_203 : decode cL_law 203 = .ok (.istore 6, 2) := by decide +kernel
theorem dL_law_205 : decode cL_law 205 = .ok (.aload_n 2, 1) := by decide +kernel
theorem dL_law_206 : decode cL_law 206 = .ok (.invokevirtual 76, 3) := by decide +kernel
theorem dL_law_209 : decode cL_law 209 = .ok (.iload 5, 2) := by decide +kernel
theorem dL_law_211 : decode cL_law 211 = .ok (.if_icmp .eq 5, 3) := by decide +kernel
theorem dL_law_214 : decode cL_law 214 = .ok (.iconst 0, 1) := by decide +kernel
theorem dL_law_215 : decode cL_law 215 = .ok (.ireturn, 1) := by decide +kernel
theorem dL_law_216 : decode cL_law 216 = .ok (.iload 5, 2) := by decide +kernel
theorem dL_law_218 : decode cL_law 218 = .ok (.ifCond .ne 15, 3) := by decide +kernel
theorem dL_law_221 : decode cL_law 221 = .ok (.aload_n 3, 1) := by decide +kernel
theorem dL_law_222 : decode cL_law 222 = .ok (.iconst 0, 1) := by decide +kernel
theorem dL_law_223 : decode cL_law 223 = .ok (.laload, 1) := by decide +kernel
theorem dL_law_224 : decode cL_law 224 = .ok (.iload 6, 2) := by decide +kernel
theorem dL_law_226 : decode cL_law 226 = .ok (.i2l, 1) := by decide +kernel
theorem dL_law_227 : decode cL_law 227 = .ok (.lcmp, 1) := by decide +kernel
theorem dL_law_228 : decode cL_law 228 = .ok (.ifCond .eq 5, 3) := by decide +kernel
theorem dL_law_231 : decode cL_law 231 = .ok (.iconst 0, 1) := by decide +kernel
theorem dL_law_232 : decode cL_law 232 = .ok (.ireturn, 1) := by decide +kernel
theorem dL_law_233 : decode cL_law 233 = .ok (.goto 642, 3) := by decide +kernel
theorem dL_law_236 : decode cL_law 236 = .ok (.aload_n 1, 1) := by decide +kernel
theorem dL_law_237 : decode cL_law 237 = .ok (.aload_n 3, 1) := by decide +kernel
theorem dL_law_238 : decode cL_law 238 = .ok (.invokestatic 82, 3) := by decide +kernel
theorem dL_law_241 : decode cL_law 241 = .ok (.istore 5, 2) := by decide +kernel
theorem dL_law_243 : decode cL_law 243 = .ok (.aload_n 2, 1) := by decide +kernel
theorem dL_law_244 : decode cL_law 244 = .ok (.invokevirtual 85, 3) := by decide +kernel
theorem dL_law_247 : decode cL_law 247 = .ok (.istore 6, 2) := by decide +kernel
theorem dL_law_249 : decode cL_law 249 = .ok (.aload_n 2, 1) := by decide +kernel
theorem dL_law_250 : decode cL_law 250 = .ok (.invokevirtual 76, 3) := by decide +kernel
theorem dL_law_253 : decode cL_law 253 = .ok (.iload 5, 2) := by decide +kernel
theorem dL_law_255 : decode cL_law 255 = .ok (.if_icmp .eq 5, 3) := by decide +kernel
theorem dL_law_258 : decode cL_law 258 = .ok (.iconst 0, 1) := by decide +kernel
theorem dL_law_259 : decode cL_law 259 = .ok (.ireturn, 1) := by decide +kernel
theorem dL_law_260 : decode cL_law 260 = .ok (.iload 5, 2) := by decide +kernel
theorem dL_law_262 : decode cL_law 262 = .ok (.ifCond .ne 15, 3) := by decide +kernel
theorem dL_law_265 : decode cL_law 265 = .ok (.aload_n 3, 1) := by decide +kernel
theorem dL_law_266 : decode cL_law 266 = .ok (.iconst 0, 1) := by decide +kernel
theorem dL_law_267 : decode cL_law 267 = .ok (.laload, 1) := by decide +kernel
theorem dL_law_268 : decode cL_law 268 = .ok (.iload 6, 2) := by decide +kernel
theorem dL_law_270 : decode cL_law 270 = .ok (.i2l, 1) := by decide +kernel
theorem dL_law_271 : decode cL_law 271 = .ok (.lcmp, 1) := by decide +kernel
theorem dL_law_272 : decode cL_law 272 = .ok (.ifCond .eq 5, 3) := by decide +kernel
theorem dL_law_275 : decode cL_law 275 = .ok (.iconst 0, 1) := by decide +kernel
theorem dL_law_276 : decode cL_law 276 = .ok (.ireturn, 1) := by decide +kernel
theorem dL_law_277 : decode cL_law 277 = .ok (.goto 598, 3) := by decide +kernel
theorem dL_law_280 : decode cL_law 280 = .ok (.aload_n 1, 1) := by decide +kernel
theorem dL_law_281 : decode cL_law 281 = .ok (.aload_n 3, 1) := by decide +kernel
theorem dL_law_282 : decode cL_law 282 = .ok (.invokestatic 86, 3) := by decide +kernel
theorem dL_law_285 : decode cL_law 285 = .ok (.istore 5, 2) := by decide +kernel
theorem dL_law_287 : decode cL_law 287 = .ok (.aload_n 2, 1) := by decide +kernel
theorem dL_law_288 : decode cL_law 288 = .ok (.invokevirtual 88, 3) := by decide +kernel
theorem dL_law_291 : decode cL_law 291 = .ok (.istore 6, 2) := by decide +kernel
theorem dL_law_293 : decode cL_law 293 = .ok (.aload_n 2, 1) := by decide +kernel
theorem dL_law_294 : decode cL_law 294 = .ok (.invokevirtual 76, 3) := by decide +kernel
theorem dL_law_297 : decode cL_law 297 = .ok (.iload 5, 2) := by decide +kernel
theorem dL_law_299 : decode cL_law 299 = .ok (.if_icmp .eq 5, 3) := by decide +kernel
theorem dL_law_302 : decode cL_law 302 = .ok (.iconst 0, 1) := by decide +kernel
theorem dL_law_303 : decode cL_law 303 = .ok (.ireturn, 1) := by decide +kernel
theorem dL_law_304 : decode cL_law 304 = .ok (.iload 5, 2) := by decide +kernel
theorem dL_law_306 : decode cL_law 306 = .ok (.ifCond .ne 15, 3) := by decide +kernel
theorem dL_law_309 : decode cL_law 309 = .ok (.aload_n 3, 1) := by decide +kernel
theorem dL_law_310 : decode cL_law 310 = .ok (.iconst 0, 1) := by decide +kernel
theorem dL_law_311 : decode cL_law 311 = .ok (.laload, 1) := by decide +kernel
theorem dL_law_312 : decode cL_law 312 = .ok (.iload 6, 2) := by decide +kernel
theorem dL_law_314 : decode cL_law 314 = .ok (.i2l, 1) := by decide +kernel
theorem dL_law_315 : decode cL_law 315 = .ok (.lcmp, 1) := by decide +kernel
theorem dL_law_316 : decode cL_law 316 = .ok (.ifCond .eq 5, 3) := by decide +kernel
theorem dL_law_319 : decode cL_law 319 = .ok (.iconst 0, 1) := by decide +kernel
theorem dL_law_320 : decode cL_law 320 = .ok (.ireturn, 1) := by decide +kernel
theorem dL_law_321 : decode cL_law 321 = .ok (.goto 554, 3) := by decide +kernel
theorem dL_law_324 : decode cL_law 324 = .ok (.aload_n 1, 1) := by decide +kernel
theorem dL_law_325 : decode cL_law 325 = .ok (.aload_n 0, 1) := by decide +kernel
theorem dL_law_326 : decode cL_law 326 = .ok (.iload 4, 2) := by decide +kernel
theorem dL_law_328 : decode cL_law 328 = .ok (.iconst 1, 1) := by decide +kernel
theorem dL_law_329 : decode cL_law 329 = .ok (.iadd, 1) := by decide +kernel
theorem dL_law_330 : decode cL_law 330 = .ok (.iaload, 1) := by decide +kernel
theorem dL_law_331 : decode cL_law 331 = .ok (.aload_n 0, 1) := by decide +kernel
theorem dL_law_332 : decode cL_law 332 = .ok (.iload 4, 2) := by decide +kernel
theorem dL_law_334 : decode cL_law 334 = .ok (.iconst 2, 1) := by decide +kernel
theorem dL_law_335 : decode cL_law 335 = .ok (.iadd, 1) := by decide +kernel
theorem dL_law_336 : decode cL_law 336 = .ok (.iaload, 1) := by decide +kernel
theorem dL_law_337 : decode cL_law 337 = .ok (.invokestatic 89, 3) := by decide +kernel
theorem dL_law_340 : decode cL_law 340 = .ok (.istore 5, 2) := by decide +kernel
theorem dL_law_342 : decode cL_law 342 = .ok (.aload_n 2, 1) := by decide +kernel
theorem dL_law_343 : decode cL_law 343 = .ok (.aload_n 0, 1) := by decide +kernel
theorem dL_law_344 : decode cL_law 344 = .ok (.iload 4, 2) := by decide +kernel
theorem dL_law_346 : decode cL_law 346 = .ok (.iconst 1, 1) := by decide +kernel
theorem dL_law_347 : decode cL_law 347 = .ok (.iadd, 1) := by decide +kernel
theorem dL_law_348 : decode cL_law 348 = .ok (.iaload, 1) := by decide +kernel
theorem dL_law_349 : decode cL_law 349 = .ok (.aload_n 0, 1) := by decide +kernel
theorem dL_law_350 : decode cL_law 350 = .ok (.iload 4, 2) := by decide +kernel
theorem dL_law_352 : decode cL_law 352 = .ok (.iconst 2, 1) := by decide +kernel
theorem dL_law_353 : decode cL_law 353 = .ok (.iadd, 1) := by decide +kernel
theorem dL_law_354 : decode cL_law 354 = .ok (.iaload, 1) := by decide +kernel
theorem dL_law_355 : decode cL_law 355 = .ok (.invokevirtual 92, 3) := by decide +kernel
theorem dL_law_358 : decode cL_law 358 = .ok (.aload_n 2, 1) := by decide +kernel
theorem dL_law_359 : decode cL_law 359 = .ok (.invokevirtual 76, 3) := by decide +kernel
theorem dL_law_362 : decode cL_law 362 = .ok (.iload 5, 2) := by decide +kernel
theorem dL_law_364 : decode cL_law 364 = .ok (.if_icmp .eq 5, 3) := by decide +kernel
theorem dL_law_367 : decode cL_law 367 = .ok (.iconst 0, 1) := by decide +kernel
theorem dL_law_368 : decode cL_law 368 = .ok (.ireturn, 1) := by decide +kernel
theorem dL_law_369 : decode cL_law 369 = .ok (.goto 506, 3) := by decide +kernel
theorem dL_law_372 : decode cL_law 372 = .ok (.aload_n 1, 1) := by decide +kernel
theorem dL_law_373 : decode cL_law 373 = .ok (.invokevirtual 93, 3) := by decide +kernel
theorem dL_law_376 : decode cL_law 376 = .ok (.aload_n 2, 1) := by decide +kernel
theorem dL_law_377 : decode cL_law 377 = .ok (.invokevirtual 96, 3) := by decide +kernel
theorem dL_law_380 : decode cL_law 380 = .ok (.if_icmp .eq 495, 3) := by decide +kernel
theorem dL_law_383 : decode cL_law 383 = .ok (.iconst 0, 1) := by decide +kernel
theorem dL_law_384 : decode cL_law 384 = .ok (.ireturn, 1) := by decide +kernel
theorem dL_law_385 : decode cL_law 385 = .ok (.aload_n 1, 1) := by decide +kernel
theorem dL_law_386 : decode cL_law 386 = .ok (.aload_n 0, 1) := by decide +kernel
theorem dL_law_387 : decode cL_law 387 = .ok (.iload 4, 2) := by decide +kernel
theorem dL_law_389 : decode cL_law 389 = .ok (.iconst 1, 1) := by decide +kernel
theorem dL_law_390 : decode cL_law 390 = .ok (.iadd, 1) := by decide +kernel
theorem dL_law_391 : decode cL_law 391 = .ok (.iaload, 1) := by decide +kernel
theorem dL_law_392 : decode cL_law 392 = .ok (.aload_n 0, 1) := by decide +kernel
theorem dL_law_393 : decode cL_law 393 = .ok (.iload 4, 2) := by decide +kernel
theorem dL_law_395 : decode cL_law 395 = .ok (.iconst 2, 1) := by decide +kernel
theorem dL_law_396 : decode cL_law 396 = .ok (.iadd, 1) := by decide +kernel
theorem dL_law_397 : decode cL_law 397 = .ok (.iaload, 1) := by decide +kernel
theorem dL_law_398 : decode cL_law 398 = .ok (.aload_n 0, 1) := by decide +kernel
theorem dL_law_399 : decode cL_law 399 = .ok (.iload 4, 2) := by decide +kernel
theorem dL_law_401 : decode cL_law 401 = .ok (.iconst 3, 1) := by decide +kernel
theorem dL_law_402 : decode cL_law 402 = .ok (.iadd, 1) := by decide +kernel
theorem dL_law_403 : decode cL_law 403 = .ok (.iaload, 1) := by decide +kernel
theorem dL_law_404 : decode cL_law 404 = .ok (.aload_n 3, 1) := by decide +kernel
theorem dL_law_405 : decode cL_law 405 = .ok (.invokestatic 97, 3) := by decide +kernel
theorem dL_law_408 : decode cL_law 408 = .ok (.istore 5, 2) := by decide +kernel
theorem dL_law_410 : decode cL_law 410 = .ok (.aload_n 2, 1) := by decide +kernel
theorem dL_law_411 : decode cL_law 411 = .ok (.aload_n 0, 1) := by decide +kernel
theorem dL_law_412 : decode cL_law 412 = .ok (.iload 4, 2) := by decide +kernel
theorem dL_law_414 : decode cL_law 414 = .ok (.iconst 1, 1) := by decide +kernel
theorem dL_law_415 : decode cL_law 415 = .ok (.iadd, 1) := by decide +kernel
theorem dL_law_416 : decode cL_law 416 = .ok (.iaload, 1) := by decide +kernel
theorem dL_law_417 : decode cL_law 417 = .ok (.aload_n 0, 1) := by decide +kernel
theorem dL_law_418 : decode cL_law 418 = .ok (.iload 4, 2) := by decide +kernel
theorem dL_law_420 : decode cL_law 420 = .ok (.iconst 2, 1) := by decide +kernel
theorem dL_law_421 : decode cL_law 421 = .ok (.iadd, 1) := by decide +kernel
theorem dL_law_422 : decode cL_law 422 = .ok (.iaload, 1) := by decide +kernel
theorem dL_law_423 : decode cL_law 423 = .ok (.aload_n 0, 1) := by decide +kernel
theorem dL_law_424 : decode cL_law 424 = .ok (.iload 4, 2) := by decide +kernel
theorem dL_law_426 : decode cL_law 426 = .ok (.iconst 3, 1) := by decide +kernel
theorem dL_law_427 : decode cL_law 427 = .ok (.iadd, 1) := by decide +kernel
theorem dL_law_428 : decode cL_law 428 = .ok (.iaload, 1) := by decide +kernel
theorem dL_law_429 : decode cL_law 429 = .ok (.invokevirtual 100, 3) := by decide +kernel
theorem dL_law_432 : decode cL_law 432 = .ok (.istore 6, 2) := by decide +kernel
theorem dL_law_434 : decode cL_law 434 = .ok (.aload_n 2, 1) := by decide +kernel
theorem dL_law_435 : decode cL_law 435 = .ok (.invokevirtual 76, 3) := by decide +kernel
theorem dL_law_438 : decode cL_law 438 = .ok (.iload 5, 2) := by decide +kernel
theorem dL_law_440 : decode cL_law 440 = .ok (.if_icmp .eq 5, 3) := by decide +kernel
theorem dL_law_443 : decode cL_law 443 = .ok (.iconst 0, 1) := by decide +kernel
theorem dL_law_444 : decode cL_law 444 = .ok (.ireturn, 1) := by decide +kernel
theorem dL_law_445 : decode cL_law 445 = .ok (.iload 5, 2) := by decide +kernel
theorem dL_law_447 : decode cL_law 447 = .ok (.ifCond .ne 15, 3) := by decide +kernel
theorem dL_law_450 : decode cL_law 450 = .ok (.aload_n 3, 1) := by decide +kernel
theorem dL_law_451 : decode cL_law 451 = .ok (.iconst 0, 1) := by decide +kernel
theorem dL_law_452 : decode cL_law 452 = .ok (.laload, 1) := by decide +kernel
theorem dL_law_453 : decode cL_law 453 = .ok (.iload 6, 2) := by decide +kernel
theorem dL_law_455 : decode cL_law 455 = .ok (.i2l, 1) := by decide +kernel
theorem dL_law_456 : decode cL_law 456 = .ok (.lcmp, 1) := by decide +kernel
theorem dL_law_457 : decode cL_law 457 = .ok (.ifCond .eq 5, 3) := by decide +kernel
theorem dL_law_460 : decode cL_law 460 = .ok (.iconst 0, 1) := by decide +kernel
theorem dL_law_461 : decode cL_law 461 = .ok (.ireturn, 1) := by decide +kernel
theorem dL_law_462 : decode cL_law 462 = .ok (.goto 413, 3) := by decide +kernel
theorem dL_law_465 : decode cL_law 465 = .ok (.aload_n 1, 1) := by decide +kernel
theorem dL_law_466 : decode cL_law 466 = .ok (.aload_n 0, 1) := by decide +kernel
theorem dL_law_467 : decode cL_law 467 = .ok (.iload 4, 2) := by decide +kernel
theorem dL_law_469 : decode cL_law 469 = .ok (.iconst 1, 1) := by decide +kernel
theorem dL_law_470 : decode cL_law 470 = .ok (.iadd, 1) := by decide +kernel
theorem dL_law_471 : decode cL_law 471 = .ok (.iaload, 1) := by decide +kernel
theorem dL_law_472 : decode cL_law 472 = .ok (.aload_n 0, 1) := by decide +kernel
theorem dL_law_473 : decode cL_law 473 = .ok (.iload 4, 2) := by decide +kernel
theorem dL_law_475 : decode cL_law 475 = .ok (.iconst 2, 1) := by decide +kernel
theorem dL_law_476 : decode cL_law 476 = .ok (.iadd, 1) := by decide +kernel
theorem dL_law_477 : decode cL_law 477 = .ok (.iaload, 1) := by decide +kernel
theorem dL_law_478 : decode cL_law 478 = .ok (.aload_n 3, 1) := by decide +kernel
theorem dL_law_479 : decode cL_law 479 = .ok (.invokestatic 101, 3) := by decide +kernel
theorem dL_law_482 : decode cL_law 482 = .ok (.istore 5, 2) := by decide +kernel
theorem dL_law_484 : decode cL_law 484 = .ok (.aload_n 2, 1) := by decide +kernel
theorem dL_law_485 : decode cL_law 485 = .ok (.aload_n 0, 1) := by decide +kernel
theorem dL_law_486 : decode cL_law 486 = .ok (.iload 4, 2) := by decide +kernel
theorem dL_law_488 : decode cL_law 488 = .ok (.iconst 1, 1) := by decide +kernel
theorem dL_law_489 : decode cL_law 489 = .ok (.iadd, 1) := by decide +kernel
theorem dL_law_490 : decode cL_law 490 = .ok (.iaload, 1) := by decide +kernel
theorem dL_law_491 : decode cL_law 491 = .ok (.aload_n 0, 1) := by decide +kernel
theorem dL_law_492 : decode cL_law 492 = .ok (.iload 4, 2) := by decide +kernel
theorem dL_law_494 : decode cL_law 494 = .ok (.iconst 2, 1) := by decide +kernel
theorem dL_law_495 : decode cL_law 495 = .ok (.iadd, 1) := by decide +kernel
theorem dL_law_496 : decode cL_law 496 = .ok (.iaload, 1) := by decide +kernel
theorem dL_law_497 : decode cL_law 497 = .ok (.invokevirtual 104, 3) := by decide +kernel
theorem dL_law_500 : decode cL_law 500 = .ok (.istore 6, 2) := by decide +kernel
theorem dL_law_502 : decode cL_law 502 = .ok (.aload_n 2, 1) := by decide +kernel
theorem dL_law_503 : decode cL_law 503 = .ok (.invokevirtual 76, 3) := by decide +kernel
theorem dL_law_506 : decode cL_law 506 = .ok (.iload 5, 2) := by decide +kernel
theorem dL_law_508 : decode cL_law 508 = .ok (.if_icmp .eq 5, 3) := by decide +kernel
theorem dL_law_511 : decode cL_law 511 = .ok (.iconst 0, 1) := by decide +kernel
theorem dL_law_512 : decode cL_law 512 = .ok (.ireturn, 1) := by decide +kernel
theorem dL_law_513 : decode cL_law 513 = .ok (.iload 5, 2) := by decide +kernel
theorem dL_law_515 : decode cL_law 515 = .ok (.ifCond .ne 15, 3) := by decide +kernel
theorem dL_law_518 : decode cL_law 518 = .ok (.aload_n 3, 1) := by decide +kernel
theorem dL_law_519 : decode cL_law 519 = .ok (.iconst 0, 1) := by decide +kernel
theorem dL_law_520 : decode cL_law 520 = .ok (.laload, 1) := by decide +kernel
theorem dL_law_521 : decode cL_law 521 = .ok (.iload 6, 2) := by decide +kernel
theorem dL_law_523 : decode cL_law 523 = .ok (.i2l, 1) := by decide +kernel
theorem dL_law_524 : decode cL_law 524 = .ok (.lcmp, 1) := by decide +kernel
theorem dL_law_525 : decode cL_law 525 = .ok (.ifCond .eq 5, 3) := by decide +kernel
theorem dL_law_528 : decode cL_law 528 = .ok (.iconst 0, 1) := by decide +kernel
theorem dL_law_529 : decode cL_law 529 = .ok (.ireturn, 1) := by decide +kernel
theorem dL_law_530 : decode cL_law 530 = .ok (.goto 345, 3) := by decide +kernel
theorem dL_law_533 : decode cL_law 533 = .ok (.aload_n 1, 1) := by decide +kernel
theorem dL_law_534 : decode cL_law 534 = .ok (.aload_n 0, 1) := by decide +kernel
theorem dL_law_535 : decode cL_law 535 = .ok (.iload 4, 2) := by decide +kernel
theorem dL_law_537 : decode cL_law 537 = .ok (.iconst 1, 1) := by decide +kernel
theorem dL_law_538 : decode cL_law 538 = .ok (.iadd, 1) := by decide +kernel
theorem dL_law_539 : decode cL_law 539 = .ok (.iaload, 1) := by decide +kernel
theorem dL_law_540 : decode cL_law 540 = .ok (.aload_n 0, 1) := by decide +kernel
theorem dL_law_541 : decode cL_law 541 = .ok (.iload 4, 2) := by decide +kernel
theorem dL_law_543 : decode cL_law 543 = .ok (.iconst 2, 1) := by decide +kernel
theorem dL_law_544 : decode cL_law 544 = .ok (.iadd, 1) := by decide +kernel
theorem dL_law_545 : decode cL_law 545 = .ok (.iaload, 1) := by decide +kernel
theorem dL_law_546 : decode cL_law 546 = .ok (.aload_n 3, 1) := by decide +kernel
theorem dL_law_547 : decode cL_law 547 = .ok (.invokestatic 105, 3) := by decide +kernel
theorem dL_law_550 : decode cL_law 550 = .ok (.istore 5, 2) := by decide +kernel
theorem dL_law_552 : decode cL_law 552 = .ok (.aload_n 2, 1) := by decide +kernel
theorem dL_law_553 : decode cL_law 553 = .ok (.aload_n 0, 1) := by decide +kernel
theorem dL_law_554 : decode cL_law 554 = .ok (.iload 4, 2) := by decide +kernel
theorem dL_law_556 : decode cL_law 556 = .ok (.iconst 1, 1) := by decide +kernel
theorem dL_law_557 : decode cL_law 557 = .ok (.iadd, 1) := by decide +kernel
theorem dL_law_558 : decode cL_law 558 = .ok (.iaload, 1) := by decide +kernel
theorem dL_law_559 : decode cL_law 559 = .ok (.aload_n 0, 1) := by decide +kernel
theorem dL_law_560 : decode cL_law 560 = .ok (.iload 4, 2) := by decide +kernel
theorem dL_law_562 : decode cL_law 562 = .ok (.iconst 2, 1) := by decide +kernel
theorem dL_law_563 : decode cL_law 563 = .ok (.iadd, 1) := by decide +kernel
theorem dL_law_564 : decode cL_law 564 = .ok (.iaload, 1) := by decide +kernel
theorem dL_law_565 : decode cL_law 565 = .ok (.invokevirtual 107, 3) := by decide +kernel
theorem dL_law_568 : decode cL_law 568 = .ok (.istore 6, 2) := by decide +kernel
theorem dL_law_570 : decode cL_law 570 = .ok (.aload_n 2, 1) := by decide +kernel
theorem dL_law_571 : decode cL_law 571 = .ok (.invokevirtual 76, 3) := by decide +kernel
theorem dL_law_574 : decode cL_law 574 = .ok (.iload 5, 2) := by decide +kernel
theorem dL_law_576 : decode cL_law 576 = .ok (.if_icmp .eq 5, 3) := by decide +kernel
theorem dL_law_579 : decode cL_law 579 = .ok (.iconst 0, 1) := by decide +kernel
theorem dL_law_580 : decode cL_law 580 = .ok (.ireturn, 1) := by decide +kernel
theorem dL_law_581 : decode cL_law 581 = .ok (.iload 5, 2) := by decide +kernel
theorem dL_law_583 : decode cL_law 583 = .ok (.ifCond .ne 15, 3) := by decide +kernel
theorem dL_law_586 : decode cL_law 586 = .ok (.aload_n 3, 1) := by decide +kernel
theorem dL_law_587 : decode cL_law 587 = .ok (.iconst 0, 1) := by decide +kernel
theorem dL_law_588 : decode cL_law 588 = .ok (.laload, 1) := by decide +kernel
theorem dL_law_589 : decode cL_law 589 = .ok (.iload 6, 2) := by decide +kernel
theorem dL_law_591 : decode cL_law 591 = .ok (.i2l, 1) := by decide +kernel
theorem dL_law_592 : decode cL_law 592 = .ok (.lcmp, 1) := by decide +kernel
theorem dL_law_593 : decode cL_law 593 = .ok (.ifCond .eq 5, 3) := by decide +kernel
theorem dL_law_596 : decode cL_law 596 = .ok (.iconst 0, 1) := by decide +kernel
theorem dL_law_597 : decode cL_law 597 = .ok (.ireturn, 1) := by decide +kernel
theorem dL_law_598 : decode cL_law 598 = .ok (.goto 277, 3) := by decide +kernel
theorem dL_law_601 : decode cL_law 601 = .ok (.aload_n 1, 1) := by decide +kernel
theorem dL_law_602 : decode cL_law 602 = .ok (.aload_n 0, 1) := by decide +kernel
theorem dL_law_603 : decode cL_law 603 = .ok (.iload 4, 2) := by decide +kernel
theorem dL_law_605 : decode cL_law 605 = .ok (.iconst 1, 1) := by decide +kernel
theorem dL_law_606 : decode cL_law 606 = .ok (.iadd, 1) := by decide +kernel
theorem dL_law_607 : decode cL_law 607 = .ok (.iaload, 1) := by decide +kernel
theorem dL_law_608 : decode cL_law 608 = .ok (.aload_n 0, 1) := by decide +kernel
theorem dL_law_609 : decode cL_law 609 = .ok (.iload 4, 2) := by decide +kernel
theorem dL_law_611 : decode cL_law 611 = .ok (.iconst 2, 1) := by decide +kernel
theorem dL_law_612 : decode cL_law 612 = .ok (.iadd, 1) := by decide +kernel
theorem dL_law_613 : decode cL_law 613 = .ok (.iaload, 1) := by decide +kernel
theorem dL_law_614 : decode cL_law 614 = .ok (.aload_n 3, 1) := by decide +kernel
theorem dL_law_615 : decode cL_law 615 = .ok (.invokestatic 108, 3) := by decide +kernel
theorem dL_law_618 : decode cL_law 618 = .ok (.istore 5, 2) := by decide +kernel
theorem dL_law_620 : decode cL_law 620 = .ok (.aload_n 2, 1) := by decide +kernel
theorem dL_law_621 : decode cL_law 621 = .ok (.aload_n 0, 1) := by decide +kernel
theorem dL_law_622 : decode cL_law 622 = .ok (.iload 4, 2) := by decide +kernel
theorem dL_law_624 : decode cL_law 624 = .ok (.iconst 1, 1) := by decide +kernel
theorem dL_law_625 : decode cL_law 625 = .ok (.iadd, 1) := by decide +kernel
theorem dL_law_626 : decode cL_law 626 = .ok (.iaload, 1) := by decide +kernel
theorem dL_law_627 : decode cL_law 627 = .ok (.aload_n 0, 1) := by decide +kernel
theorem dL_law_628 : decode cL_law 628 = .ok (.iload 4, 2) := by decide +kernel
theorem dL_law_630 : decode cL_law 630 = .ok (.iconst 2, 1) := by decide +kernel
theorem dL_law_631 : decode cL_law 631 = .ok (.iadd, 1) := by decide +kernel
theorem dL_law_632 : decode cL_law 632 = .ok (.iaload, 1) := by decide +kernel
theorem dL_law_633 : decode cL_law 633 = .ok (.invokevirtual 110, 3) := by decide +kernel
theorem dL_law_636 : decode cL_law 636 = .ok (.istore 6, 2) := by decide +kernel
theorem dL_law_638 : decode cL_law 638 = .ok (.aload_n 2, 1) := by decide +kernel
theorem dL_law_639 : decode cL_law 639 = .ok (.invokevirtual 76, 3) := by decide +kernel
theorem dL_law_642 : decode cL_law 642 = .ok (.iload 5, 2) := by decide +kernel
theorem dL_law_644 : decode cL_law 644 = .ok (.if_icmp .eq 5, 3) := by decide +kernel
theorem dL_law_647 : decode cL_law 647 = .ok (.iconst 0, 1) := by decide +kernel
theorem dL_law_648 : decode cL_law 648 = .ok (.ireturn, 1) := by decide +kernel
theorem dL_law_649 : decode cL_law 649 = .ok (.iload 5, 2) := by decide +kernel
theorem dL_law_651 : decode cL_law 651 = .ok (.ifCond .ne 15, 3) := by decide +kernel
theorem dL_law_654 : decode cL_law 654 = .ok (.aload_n 3, 1) := by decide +kernel
theorem dL_law_655 : decode cL_law 655 = .ok (.iconst 0, 1) := by decide +kernel
theorem dL_law_656 : decode cL_law 656 = .ok (.laload, 1) := by decide +kernel
theorem dL_law_657 : decode cL_law 657 = .ok (.iload 6, 2) := by decide +kernel
theorem dL_law_659 : decode cL_law 659 = .ok (.i2l, 1) := by decide +kernel
theorem dL_law_660 : decode cL_law 660 = .ok (.lcmp, 1) := by decide +kernel
theorem dL_law_661 : decode cL_law 661 = .ok (.ifCond .eq 5, 3) := by decide +kernel
theorem dL_law_664 : decode cL_law 664 = .ok (.iconst 0, 1) := by decide +kernel
theorem dL_law_665 : decode cL_law 665 = .ok (.ireturn, 1) := by decide +kernel
theorem dL_law_666 : decode cL_law 666 = .ok (.goto 209, 3) := by decide +kernel
theorem dL_law_669 : decode cL_law 669 = .ok (.aload_n 1, 1) := by decide +kernel
theorem dL_law_670 : decode cL_law 670 = .ok (.invokevirtual 111, 3) := by decide +kernel
theorem dL_law_673 : decode cL_law 673 = .ok (.aload_n 2, 1) := by decide +kernel
theorem dL_law_674 : decode cL_law 674 = .ok (.invokevirtual 114, 3) := by decide +kernel
theorem dL_law_677 : decode cL_law 677 = .ok (.if_icmp .eq 198, 3) := by decide +kernel
theorem dL_law_680 : decode cL_law 680 = .ok (.iconst 0, 1) := by decide +kernel
theorem dL_law_681 : decode cL_law 681 = .ok (.ireturn, 1) := by decide +kernel
theorem dL_law_682 : decode cL_law 682 = .ok (.aload_n 1, 1) := by decide +kernel
theorem dL_law_683 : decode cL_law 683 = .ok (.aload_n 3, 1) := by decide +kernel
theorem dL_law_684 : decode cL_law 684 = .ok (.invokestatic 115, 3) := by decide +kernel
theorem dL_law_687 : decode cL_law 687 = .ok (.istore 5, 2) := by decide +kernel
theorem dL_law_689 : decode cL_law 689 = .ok (.aload_n 2, 1) := by decide +kernel
theorem dL_law_690 : decode cL_law 690 = .ok (.invokevirtual 117, 3) := by decide +kernel
theorem dL_law_693 : decode cL_law 693 = .ok (.istore 6, 2) := by decide +kernel
theorem dL_law_695 : decode cL_law 695 = .ok (.aload_n 2, 1) := by decide +kernel
theorem dL_law_696 : decode cL_law 696 = .ok (.invokevirtual 76, 3) := by decide +kernel
theorem dL_law_699 : decode cL_law 699 = .ok (.iload 5, 2) := by decide +kernel
theorem dL_law_701 : decode cL_law 701 = .ok (.if_icmp .eq 5, 3) := by decide +kernel
theorem dL_law_704 : decode cL_law 704 = .ok (.iconst 0, 1) := by decide +kernel
theorem dL_law_705 : decode cL_law 705 = .ok (.ireturn, 1) := by decide +kernel
theorem dL_law_706 : decode cL_law 706 = .ok (.iload 5, 2) := by decide +kernel
theorem dL_law_708 : decode cL_law 708 = .ok (.ifCond .ne 15, 3) := by decide +kernel
theorem dL_law_711 : decode cL_law 711 = .ok (.aload_n 3, 1) := by decide +kernel
theorem dL_law_712 : decode cL_law 712 = .ok (.iconst 0, 1) := by decide +kernel
theorem dL_law_713 : decode cL_law 713 = .ok (.laload, 1) := by decide +kernel
theorem dL_law_714 : decode cL_law 714 = .ok (.iload 6, 2) := by decide +kernel
theorem dL_law_716 : decode cL_law 716 = .ok (.i2l, 1) := by decide +kernel
theorem dL_law_717 : decode cL_law 717 = .ok (.lcmp, 1) := by decide +kernel
theorem dL_law_718 : decode cL_law 718 = .ok (.ifCond .eq 5, 3) := by decide +kernel
theorem dL_law_721 : decode cL_law 721 = .ok (.iconst 0, 1) := by decide +kernel
theorem dL_law_722 : decode cL_law 722 = .ok (.ireturn, 1) := by decide +kernel
theorem dL_law_723 : decode cL_law 723 = .ok (.goto 152, 3) := by decide +kernel
theorem dL_law_726 : decode cL_law 726 = .ok (.aload_n 1, 1) := by decide +kernel
theorem dL_law_727 : decode cL_law 727 = .ok (.aload_n 3, 1) := by decide +kernel
theorem dL_law_728 : decode cL_law 728 = .ok (.invokestatic 118, 3) := by decide +kernel
theorem dL_law_731 : decode cL_law 731 = .ok (.istore 5, 2) := by decide +kernel
theorem dL_law_733 : decode cL_law 733 = .ok (.aload_n 2, 1) := by decide +kernel
theorem dL_law_734 : decode cL_law 734 = .ok (.invokevirtual 120, 3) := by decide +kernel
theorem dL_law_737 : decode cL_law 737 = .ok (.istore 6, 2) := by decide +kernel
theorem dL_law_739 : decode cL_law 739 = .ok (.aload_n 2, 1) := by decide +kernel
theorem dL_law_740 : decode cL_law 740 = .ok (.invokevirtual 76, 3) := by decide +kernel
theorem dL_law_743 : decode cL_law 743 = .ok (.iload 5, 2) := by decide +kernel
theorem dL_law_745 : decode cL_law 745 = .ok (.if_icmp .eq 5, 3) := by decide +kernel
theorem dL_law_748 : decode cL_law 748 = .ok (.iconst 0, 1) := by decide +kernel
theorem dL_law_749 : decode cL_law 749 = .ok (.ireturn, 1) := by decide +kernel
theorem dL_law_750 : decode cL_law 750 = .ok (.iload 5, 2) := by decide +kernel
theorem dL_law_752 : decode cL_law 752 = .ok (.ifCond .ne 15, 3) := by decide +kernel
theorem dL_law_755 : decode cL_law 755 = .ok (.aload_n 3, 1) := by decide +kernel
theorem dL_law_756 : decode cL_law 756 = .ok (.iconst 0, 1) := by decide +kernel
theorem dL_law_757 : decode cL_law 757 = .ok (.laload, 1) := by decide +kernel
theorem dL_law_758 : decode cL_law 758 = .ok (.iload 6, 2) := by decide +kernel
theorem dL_law_760 : decode cL_law 760 = .ok (.i2l, 1) := by decide +kernel
theorem dL_law_761 : decode cL_law 761 = .ok (.lcmp, 1) := by decide +kernel
theorem dL_law_762 : decode cL_law 762 = .ok (.ifCond .eq 5, 3) := by decide +kernel
theorem dL_law_765 : decode cL_law 765 = .ok (.iconst 0, 1) := by decide +kernel
theorem dL_law_766 : decode cL_law 766 = .ok (.ireturn, 1) := by decide +kernel
theorem dL_law_767 : decode cL_law 767 = .ok (.goto 108, 3) := by decide +kernel
theorem dL_law_770 : decode cL_law 770 = .ok (.aload_n 1, 1) := by decide +kernel
theorem dL_law_771 : decode cL_law 771 = .ok (.aload_n 0, 1) := by decide +kernel
theorem dL_law_772 : decode cL_law 772 = .ok (.iload 4, 2) := by decide +kernel
theorem dL_law_774 : decode cL_law 774 = .ok (.iconst 1, 1) := by decide +kernel
theorem dL_law_775 : decode cL_law 775 = .ok (.iadd, 1) := by decide +kernel
theorem dL_law_776 : decode cL_law 776 = .ok (.iaload, 1) := by decide +kernel
theorem dL_law_777 : decode cL_law 777 = .ok (.aload_n 0, 1) := by decide +kernel
theorem dL_law_778 : decode cL_law 778 = .ok (.iload 4, 2) := by decide +kernel
theorem dL_law_780 : decode cL_law 780 = .ok (.iconst 2, 1) := by decide +kernel
theorem dL_law_781 : decode cL_law 781 = .ok (.iadd, 1) := by decide +kernel
theorem dL_law_782 : decode cL_law 782 = .ok (.iaload, 1) := by decide +kernel
theorem dL_law_783 : decode cL_law 783 = .ok (.aload_n 0, 1) := by decide +kernel
theorem dL_law_784 : decode cL_law 784 = .ok (.iload 4, 2) := by decide +kernel
theorem dL_law_786 : decode cL_law 786 = .ok (.iconst 3, 1) := by decide +kernel
theorem dL_law_787 : decode cL_law 787 = .ok (.iadd, 1) := by decide +kernel
theorem dL_law_788 : decode cL_law 788 = .ok (.iaload, 1) := by decide +kernel
theorem dL_law_789 : decode cL_law 789 = .ok (.aload_n 3, 1) := by decide +kernel
theorem dL_law_790 : decode cL_law 790 = .ok (.invokestatic 121, 3) := by decide +kernel
theorem dL_law_793 : decode cL_law 793 = .ok (.istore 5, 2) := by decide +kernel
theorem dL_law_795 : decode cL_law 795 = .ok (.aload_n 2, 1) := by decide +kernel
theorem dL_law_796 : decode cL_law 796 = .ok (.aload_n 0, 1) := by decide +kernel
theorem dL_law_797 : decode cL_law 797 = .ok (.iload 4, 2) := by decide +kernel
theorem dL_law_799 : decode cL_law 799 = .ok (.iconst 1, 1) := by decide +kernel
theorem dL_law_800 : decode cL_law 800 = .ok (.iadd, 1) := by decide +kernel
theorem dL_law_801 : decode cL_law 801 = .ok (.iaload, 1) := by decide +kernel
theorem dL_law_802 : decode cL_law 802 = .ok (.aload_n 0, 1) := by decide +kernel
theorem dL_law_803 : decode cL_law 803 = .ok (.iload 4, 2) := by decide +kernel
theorem dL_law_805 : decode cL_law 805 = .ok (.iconst 2, 1) := by decide +kernel
theorem dL_law_806 : decode cL_law 806 = .ok (.iadd, 1) := by decide +kernel
theorem dL_law_807 : decode cL_law 807 = .ok (.iaload, 1) := by decide +kernel
theorem dL_law_808 : decode cL_law 808 = .ok (.aload_n 0, 1) := by decide +kernel
theorem dL_law_809 : decode cL_law 809 = .ok (.iload 4, 2) := by decide +kernel
theorem dL_law_811 : decode cL_law 811 = .ok (.iconst 3, 1) := by decide +kernel
theorem dL_law_812 : decode cL_law 812 = .ok (.iadd, 1) := by decide +kernel
theorem dL_law_813 : decode cL_law 813 = .ok (.iaload, 1) := by decide +kernel
theorem dL_law_814 : decode cL_law 814 = .ok (.invokevirtual 123, 3) := by decide +kernel
theorem dL_law_817 : decode cL_law 817 = .ok (.istore 6, 2) := by decide +kernel
theorem dL_law_819 : decode cL_law 819 = .ok (.aload_n 2, 1) := by decide +kernel
theorem dL_law_820 : decode cL_law 820 = .ok (.invokevirtual 76, 3) := by decide +kernel
theorem dL_law_823 : decode cL_law 823 = .ok (.iload 5, 2) := by decide +kernel
theorem dL_law_825 : decode cL_law 825 = .ok (.if_icmp .eq 5, 3) := by decide +kernel
theorem dL_law_828 : decode cL_law 828 = .ok (.iconst 0, 1) := by decide +kernel
theorem dL_law_829 : decode cL_law 829 = .ok (.ireturn, 1) := by decide +kernel
theorem dL_law_830 : decode cL_law 830 = .ok (.iload 5, 2) := by decide +kernel
theorem dL_law_832 : decode cL_law 832 = .ok (.ifCond .ne 15, 3) := by decide +kernel
theorem dL_law_835 : decode cL_law 835 = .ok (.aload_n 3, 1) := by decide +kernel
theorem dL_law_836 : decode cL_law 836 = .ok (.iconst 0, 1) := by decide +kernel
theorem dL_law_837 : decode cL_law 837 = .ok (.laload, 1) := by decide +kernel
theorem dL_law_838 : decode cL_law 838 = .ok (.iload 6, 2) := by decide +kernel
theorem dL_law_840 : decode cL_law 840 = .ok (.i2l, 1) := by decide +kernel
theorem dL_law_841 : decode cL_law 841 = .ok (.lcmp, 1) := by decide +kernel
theorem dL_law_842 : decode cL_law 842 = .ok (.ifCond .eq 5, 3) := by decide +kernel
theorem dL_law_845 : decode cL_law 845 = .ok (.iconst 0, 1) := by decide +kernel
theorem dL_law_846 : decode cL_law 846 = .ok (.ireturn, 1) := by decide +kernel
theorem dL_law_847 : decode cL_law 847 = .ok (.goto 28, 3) := by decide +kernel
theorem dL_law_850 : decode cL_law 850 = .ok (.aload_n 1, 1) := by decide +kernel
theorem dL_law_851 : decode cL_law 851 = .ok (.aload_n 0, 1) := by decide +kernel
theorem dL_law_852 : decode cL_law 852 = .ok (.iload 4, 2) := by decide +kernel
theorem dL_law_854 : decode cL_law 854 = .ok (.iconst 1, 1) := by decide +kernel
theorem dL_law_855 : decode cL_law 855 = .ok (.iadd, 1) := by decide +kernel
theorem dL_law_856 : decode cL_law 856 = .ok (.iaload, 1) := by decide +kernel
theorem dL_law_857 : decode cL_law 857 = .ok (.invokevirtual 124, 3) := by decide +kernel
theorem dL_law_860 : decode cL_law 860 = .ok (.aload_n 2, 1) := by decide +kernel
theorem dL_law_861 : decode cL_law 861 = .ok (.aload_n 0, 1) := by decide +kernel
theorem dL_law_862 : decode cL_law 862 = .ok (.iload 4, 2) := by decide +kernel
theorem dL_law_864 : decode cL_law 864 = .ok (.iconst 1, 1) := by decide +kernel
theorem dL_law_865 : decode cL_law 865 = .ok (.iadd, 1) := by decide +kernel
theorem dL_law_866 : decode cL_law 866 = .ok (.iaload, 1) := by decide +kernel
theorem dL_law_867 : decode cL_law 867 = .ok (.invokevirtual 127, 3) := by decide +kernel
theorem dL_law_870 : decode cL_law 870 = .ok (.if_icmp .eq 5, 3) := by decide +kernel
theorem dL_law_873 : decode cL_law 873 = .ok (.iconst 0, 1) := by decide +kernel
theorem dL_law_874 : decode cL_law 874 = .ok (.ireturn, 1) := by decide +kernel
theorem dL_law_875 : decode cL_law 875 = .ok (.iinc 4 4, 3) := by decide +kernel
theorem dL_law_878 : decode cL_law 878 = .ok (.goto (-845), 3) := by decide +kernel
theorem dL_law_881 : decode cL_law 881 = .ok (.iconst 1, 1) := by decide +kernel
theorem dL_law_882 : decode cL_law 882 = .ok (.ireturn, 1) := by decide +kernel
abbrev vwCl : List vw_C := [(RJx00060, TJx00060, 6), (RX0, TX0, 1), (RX1, TX1, 8), (RX2, TX2, 9), (RX3, TX3, 13)]
end
section
/-! BASE: what all contracts of this claim share. gK: the tables (a state's own, kept all along); worlds keep their order; a callee's part is named by its places. -/
def gNF : List (String × Nat × String × String × String × String) := [("StockLog", 92, "StockLog$Rows", "image", "LStockLog$Cells;", "StockLog"), ("StockLog", 172, "StockLog$Rows", "ofKind", "LStockLog$Cells;", "StockLog"), ("StockLog", 166, "StockLog$Rows", "last", "I", "StockLog"), ("StockLog", 98, "StockLog$Rows", "used", "I", "StockLog"), ("StockLog", 89, "StockLog$Rows", "lastOnDisk", "I", "StockLog"), ("StockLog", 95, "StockLog$Rows", "usedOnDisk", "I", "StockLog")]
def gNM : List (String × Nat × MethodName × String) := [("StockLog$Rows", 97, yX2_isKind, "StockLog"), ("StockLog$Rows", 61, yX2_sumOfRow, "StockLog")]
def gK (dC : Nat → ClassId) (dI : Nat → Nat → Nat) (cI cJ : ClassId) (U : State) : Prop := va_K (dC, dI) vwCl [(cI, .int), (cJ, .long)] U ∧ (∀ q ∈ gNF, va_Nw (.fieldLinkNest q.1 q.2.1 q.2.2.1 q.2.2.2.1 q.2.2.2.2.1 q.2.2.2.2.2) U) ∧ (∀ q ∈ gNM, va_Nw (.methodLinkNest q.1 q.2.1 q.2.2.1 q.2.2.2) U)
theorem gK.warm {dC : Nat → ClassId} {dI : Nat → Nat → Nat} {cI cJ : ClassId} {s U : State} (hW : s.WarmedH U.vm) (h : gK dC dI cI cJ s) : gK dC dI cI cJ U :=
  ⟨va_K.moved hW.alike h.1, fun q hq => va_Nw.warmF hW (h.2.1 q hq), fun q hq => va_Nw.warmM hW (h.2.2 q hq)⟩
theorem gK.call {dC : Nat → ClassId} {dI : Nat → Nat → Nat} {cI cJ : ClassId} {U : State} {g : JFrame} {mk : MethodId} {a : Array Value} (h : gK dC dI cI cJ U) : gK dC dI cI cJ (U.calling g mk a) :=
  ⟨va_K.moved (u := U) (U := U.calling g mk a) (Vm.Alike.refl U.vm) h.1, fun q hq => va_Nw.same rfl (u := U) rfl (h.2.1 q hq), fun q hq => va_Nw.same rfl (u := U) rfl (h.2.2 q hq)⟩
/-- a method that reads: its world stays -/
def mPr (dC : Nat → ClassId) (dI : Nat → Nat → Nat) (cI cJ : ClassId) (ws : va_W) (U : State) : Prop := va_P (dC, dI) vwCl ws U.heap ∧ gK dC dI cI cJ U
/-- a method that writes its world -/
def mPw (dC : Nat → ClassId) (dI : Nat → Nat → Nat) (cI cJ : ClassId) (ws : va_W) (U : State) : Prop := va_P (dC, dI) vwCl ws U.heap ∧ gK dC dI cI cJ U ∧ va_D (fun _ => True) ws
/-- the cells of a list of addresses -/
def mA (L : List Nat) : Nat → Prop := fun q => q ∈ L
def mQ (dC : Nat → ClassId) (dI : Nat → Nat → Nat) (ws' : va_W) (L : List Nat) (r : Option Value) : Array Value → State → Outcome → State → Prop := fun _ st o t => o = .returned r ∧ va_P (dC, dI) vwCl ws' t.heap ∧ va_F (mA L) st t
abbrev cP (l : Launch) (y : MethodName) (wl : List Cond) (rm : Room) (dC : Nat → ClassId) (dI : Nat → Nat → Nat) (cI cJ : ClassId) (ws : va_W) (av : List Value) (r : Int32) : Prop := Met l y wl rm (va_Pc av (mPr dC dI cI cJ ws)) (vp_Si (fun x => x = r)) 0 0 (fun _ => False)
abbrev cW (l : Launch) (y : MethodName) (wl : List Cond) (rm : Room) (dC : Nat → ClassId) (dI : Nat → Nat → Nat) (cI cJ : ClassId) (ws ws' : va_W) (L : List Nat) (av : List Value) (r : Option Value) : Prop := Met l y wl rm (va_Pc av (mPw dC dI cI cJ ws)) (mQ dC dI ws' L r) 0 0 (mA L)
/-- a world with the cells of some places put anew -/
def k_put (ws : va_W) (is : List Nat) (wc : va_W) : va_W := match is, wc with
  | i :: is, q :: wc => k_put (ws.set i q) is wc
  | _, _ => ws
section KB
variable {p : Program} {l : Launch} {e : Env} {R : Room} {s : State} {m : MethodId} {args : Array Value} {below : List Frame} {meth : Method} {c : Code} {H : Heap} {locs : List Loc} {cells slots : Nat} {Q : State → Prop}
variable {dC : Nat → ClassId} {dI : Nat → Nat → Nat} {cI cJ : ClassId} {ws ws' wc wc' : va_W} {A : Nat → Prop} {pc : Nat} {ls : Array Slot} {rest st0 : List Value} {av : List Value}
theorem k_blP : FrameBlind (va_Pc av (mPr dC dI cI cJ ws)) := fun _ _ _ _ q => ⟨q.1, q.2.1, q.2.2.call⟩
theorem k_blW : FrameBlind (va_Pc av (mPw dC dI cI cJ ws)) := fun _ _ _ _ q => ⟨q.1, q.2.1, q.2.2.1.call, q.2.2.2⟩
theorem k_recv {C : String} {T : u_T} {N ci b : Nat} {fs : List Value} (hK : gK dC dI cI cJ s) (hP : va_P (dC, dI) vwCl ws H) (q0 : Nat) (hc : vwCl[ci]? = some (C, T, N)) (he : ws[q0]? = some (b, .inr (ci, fs))) : ∃ cell : Cell, H[b]? = some cell ∧ cell.vm.isStatics = false ∧ s.vm.findClass C = some cell.cls := va_recv hK.1 hP hc he
theorem k_preVP {C : String} {T : u_T} {N ci b : Nat} {fs : List Value} {As : List Value} (hK : gK dC dI cI cJ s) (hP : va_P (dC, dI) vwCl ws H) (is : List Nat) (hs : is.filterMap (fun i => ws[i]?) = wc) (q0 : Nat) (hc : vwCl[ci]? = some (C, T, N)) (he : ws[q0]? = some (b, .inr (ci, fs))) : PreV s H C b (va_Pc (.ref b :: As) (mPr dC dI cI cJ wc)) As :=
  ⟨k_blP, k_recv hK hP q0 hc he, fun U hU hW => ⟨rfl, by rw [hU]; exact hP.sub is hs, hK.warm hW⟩⟩
theorem k_preSP {As : List Value} (hK : gK dC dI cI cJ s) (hP : va_P (dC, dI) vwCl ws H) (is : List Nat) (hs : is.filterMap (fun i => ws[i]?) = wc) : PreS s H (va_Pc As (mPr dC dI cI cJ wc)) As :=
  ⟨k_blP, fun U hU hW => ⟨rfl, by rw [hU]; exact hP.sub is hs, hK.warm hW⟩⟩
theorem k_subP {is : List Nat} (hP : va_P (dC, dI) vwCl ws H) (hs : is.map (fun i => ws[i]?) = wc.map some) : va_P (dC, dI) vwCl wc H := by
  intro k q hk
  have h1 : (wc.map some)[k]? = some (some q) := by simp [hk]
  rw [← hs, List.getElem?_map] at h1
  cases hi : is[k]? with
  | none => rw [hi] at h1; cases h1
  | some i => rw [hi] at h1; exact hP i q (Option.some.inj h1)
theorem k_preVW {C : String} {T : u_T} {N ci b : Nat} {fs : List Value} {As : List Value} (hK : gK dC dI cI cJ s) (hP : va_P (dC, dI) vwCl ws H) (hD : va_D A ws) (is : List Nat) (hn : va_nd is = true) (hs : is.map (fun i => ws[i]?) = wc.map some) (q0 : Nat) (hc : vwCl[ci]? = some (C, T, N)) (he : ws[q0]? = some (b, .inr (ci, fs))) : PreV s H C b (va_Pc (.ref b :: As) (mPw dC dI cI cJ wc)) As :=
  ⟨k_blW, k_recv hK hP q0 hc he, fun U hU hW => ⟨rfl, by rw [hU]; exact k_subP hP hs, hK.warm hW, (hD.sub is hn hs).weaken (fun _ _ _ _ => trivial)⟩⟩
theorem k_preSW {As : List Value} (hK : gK dC dI cI cJ s) (hP : va_P (dC, dI) vwCl ws H) (hD : va_D A ws) (is : List Nat) (hn : va_nd is = true) (hs : is.map (fun i => ws[i]?) = wc.map some) : PreS s H (va_Pc As (mPw dC dI cI cJ wc)) As :=
  ⟨k_blW, fun U hU hW => ⟨rfl, by rw [hU]; exact k_subP hP hs, hK.warm hW, (hD.sub is hn hs).weaken (fun _ _ _ _ => trivial)⟩⟩
/-- behind a call that reads -/
theorem k_afP {r : Int32} {a : Array Value} (hr : va_Run p l e R s m args below meth c H locs cells slots 0 0 (F0 m pc ls st0) rest (vp_Si (fun x => x = r) a) (fun _ => False))
    (kk : W p l e R s m args below meth c H locs cells slots Q (F0 m (pc + 3) ls (.int r :: rest))) : W p l e R s m args below meth c H locs cells slots Q (F0 m pc ls st0) :=
  vp_callSi hr.run (fun r' h => by rw [h]; exact kk)
/-- the cells of a changed world lie where they lay -/
theorem k_putP {D : va_G} {cl : List vw_C} {H1 : Heap} : ∀ (is : List Nat) (wc' ws0 : va_W) (ws : va_W), va_P D cl wc' H1 → (∀ (k : Nat) (q : Nat × va_E), ws[k]? = some q → (k ∈ is ∧ k ∉ ([] : List Nat)) ∨ va_at D cl q H1) → is.length = wc'.length → va_P D cl (k_put ws is wc') H1
  | [], [], _, ws, _, h, _ => fun k q hk => (h k q hk).elim (fun z => nomatch z.1) id
  | i :: is, q :: wc', ws0, ws, h1, h, hl => by
    refine k_putP is wc' ws0 (ws.set i q) (fun k x hk => h1 (k + 1) x hk) (fun k x hk => ?_) (by simpa using hl)
    rw [List.getElem?_set] at hk
    by_cases e : i = k
    · subst e
      simp at hk
      obtain ⟨-, rfl⟩ := hk
      exact Or.inr (h1 0 q rfl)
    · rw [if_neg e] at hk
      rcases h k x hk with ⟨g1, g2⟩ | g
      · rcases List.mem_cons.mp g1 with e2 | g1
        · exact absurd e2.symm e
        · exact Or.inl ⟨g1, g2⟩
      · exact Or.inr g
  | [], _ :: _, _, _, _, _, hl => by simp at hl
  | _ :: _, [], _, _, _, _, hl => by simp at hl
theorem k_putA {is : List Nat} : ∀ (wc wc' ws : va_W), is.map (fun i => (ws.map Prod.fst)[i]?) = wc.map (fun q => some q.1) → wc'.map Prod.fst = wc.map Prod.fst → (k_put ws is wc').map Prod.fst = ws.map Prod.fst := by
  induction is with
  | nil => intro wc wc' ws _ _; cases wc' <;> rfl
  | cons i is ih =>
    intro wc wc' ws h1 h2
    cases wc' with
    | nil => rfl
    | cons q wc' =>
      cases wc with
      | nil => simp at h1
      | cons x wc =>
        simp only [List.map_cons, List.cons.injEq] at h1 h2
        have e : (ws.set i q).map Prod.fst = ws.map Prod.fst := by
          rw [List.map_set, h2.1]
          refine List.ext_getElem? fun k => ?_
          rw [List.getElem?_set]
          by_cases e9 : i = k
          · subst e9
            rw [if_pos rfl, h1.1, if_pos (List.getElem?_eq_some_iff.mp h1.1).1]
          · rw [if_neg e9]
        show (k_put (ws.set i q) is wc').map Prod.fst = _
        rw [ih wc wc' (ws.set i q) (by rw [e]; exact h1.2) h2.2, e]
theorem k_Dof {ws ws' : va_W} (hD : va_D A ws) (h : ws'.map Prod.fst = ws.map Prod.fst) : va_D A ws' := by
  have at' : ∀ (k : Nat) (q : Nat × va_E), ws'[k]? = some q → ∃ q2, ws[k]? = some q2 ∧ q2.1 = q.1 := fun k q hk => by
    have h1 : (ws'.map Prod.fst)[k]? = some q.1 := by simp [hk]
    rw [h, List.getElem?_map] at h1
    cases hw : ws[k]? with
    | none => rw [hw] at h1; cases h1
    | some q2 => rw [hw] at h1; exact ⟨q2, rfl, Option.some.inj h1⟩
  refine ⟨fun i j x y hx hy e => ?_, fun k q hk => ?_⟩
  · obtain ⟨x2, a1, a2⟩ := at' i x hx
    obtain ⟨y2, b1, b2⟩ := at' j y hy
    exact hD.1 i j x2 y2 a1 b1 (by rw [a2, b2]; exact e)
  · obtain ⟨q2, a1, a2⟩ := at' k q hk
    rw [← a2]
    exact hD.2 k q2 a1
/-- a world with the callee's places put anew, in a heap where nothing else has changed -/
theorem k_putSame : ∀ (is : List Nat) (wc ws : va_W), is.map (fun i => ws[i]?) = wc.map some → k_put ws is wc = ws := by
  intro is
  induction is with
  | nil => intro wc ws _; cases wc <;> rfl
  | cons i is ih =>
    intro wc ws h
    cases wc with
    | nil => rfl
    | cons q wc =>
      simp only [List.map_cons, List.cons.injEq] at h
      have e : ws.set i q = ws := by
        refine List.ext_getElem? fun k => ?_
        rw [List.getElem?_set]
        by_cases e9 : i = k
        · subst e9
          rw [if_pos rfl, h.1, if_pos (List.getElem?_eq_some_iff.mp h.1).1]
        · rw [if_neg e9]
      show k_put (ws.set i q) is wc = ws
      rw [e]
      exact ih wc ws h.2
theorem k_join {L : List Nat} {t : Heap} {Lo : List Loc} (hP : va_P (dC, dI) vwCl ws H) (hD : va_D A ws) (hS : va_S A s.heap H locs) (is : List Nat) (hs : is.map (fun i => ws[i]?) = wc.map some) (hL : wc.map Prod.fst = L) (hadr : wc'.map Prod.fst = L) (hput : k_put ws is wc' = ws')
    (hP1 : va_P (dC, dI) vwCl wc' t) (hz : H.size ≤ t.size) (hk : ∀ q : Nat, q < H.size → ¬ mA L q → t[q]? = H[q]?) (hLo : ∀ q ∈ Lo, mA L q.base) : va_P (dC, dI) vwCl ws' t ∧ va_D A ws' ∧ va_S A s.heap t (locs ++ Lo) := by
  have hLw : ∀ q : Nat, q ∈ L → A q := fun q hq => by
    rw [← hL] at hq
    obtain ⟨x, hx, rfl⟩ := List.mem_map.mp hq
    obtain ⟨k, hk⟩ := List.mem_iff_getElem?.mp hx
    have h1 : (wc.map some)[k]? = some (some x) := by simp [hk]
    rw [← hs, List.getElem?_map] at h1
    cases hi : is[k]? with
    | none => rw [hi] at h1; cases h1
    | some i => rw [hi] at h1; exact hD.2 i x (Option.some.inj h1)
  have hpl : ∀ (k : Nat) (q : Nat × va_E), ws[k]? = some q → (k ∈ is ∧ k ∉ ([] : List Nat)) ∨ va_at (dC, dI) vwCl q t := fun k q hq => by
    by_cases hkL : q.1 ∈ L
    · left
      rw [← hL] at hkL
      obtain ⟨x, hx, e⟩ := List.mem_map.mp hkL
      obtain ⟨j, hj⟩ := List.mem_iff_getElem?.mp hx
      have h1 : (wc.map some)[j]? = some (some x) := by simp [hj]
      rw [← hs, List.getElem?_map] at h1
      cases hi : is[j]? with
      | none => rw [hi] at h1; cases h1
      | some i =>
        rw [hi] at h1
        have h2 : i = k := hD.1 i k x q (Option.some.inj h1) hq e
        subst h2
        exact ⟨List.mem_of_getElem? hi, by simp⟩
    · exact Or.inr ((hP k q hq).kept (hk q.1 (hP k q hq).lt hkL))
  have hlen : is.length = wc'.length := by
    have h1 := congrArg List.length hs
    have h2 := congrArg List.length (hadr.trans hL.symm)
    simp at h1 h2
    omega
  have hPn : va_P (dC, dI) vwCl ws' t := by
    rw [← hput]
    exact k_putP is wc' [] ws hP1 hpl hlen
  have hDn : va_D A ws' := k_Dof hD (by
    rw [← hput]
    refine k_putA wc wc' ws ?_ (hadr.trans hL.symm)
    have h3 := congrArg (List.map (fun o : Option (Nat × va_E) => o.map Prod.fst)) hs
    simp only [List.map_map] at h3
    refine Eq.trans ?_ (h3.trans ?_)
    · refine List.map_congr_left fun i _ => ?_
      simp
    · refine List.map_congr_left fun i _ => rfl)
  refine ⟨hPn, hDn, Nat.le_trans hS.1 hz, fun q h1 h2 => ?_, fun q hq => ?_⟩
  · rw [hk q (Nat.lt_of_lt_of_le h1 hS.1) (fun z => h2 (hLw q z))]
    exact hS.2.1 q h1 h2
  · rcases List.mem_append.mp hq with h | h
    · exact hS.2.2 q h
    · exact hLw _ (hLo q h)
/-- behind a call that writes: the callee's places anew, the rest as it was -/
theorem k_afW {r : Option Value} {a : Array Value} {L : List Nat} (hr : va_Run p l e R s m args below meth c H locs cells slots 0 0 (F0 m pc ls st0) rest (mQ dC dI wc' L r a) (mA L))
    (hP : va_P (dC, dI) vwCl ws H) (hD : va_D A ws) (hS : va_S A s.heap H locs) (is : List Nat) (hs : is.map (fun i => ws[i]?) = wc.map some) (hL : wc.map Prod.fst = L) (hadr : wc'.map Prod.fst = L) (hput : k_put ws is wc' = ws')
    (kk : ∀ (H1 : Heap) (locs1 : List Loc), va_P (dC, dI) vwCl ws' H1 → va_D A ws' → va_S A s.heap H1 locs1 → W p l e R s m args below meth c H1 locs1 cells slots Q (F0 m (pc + 3) ls (r.toList ++ rest))) : W p l e R s m args below meth c H locs cells slots Q (F0 m pc ls st0) := by
  intro T hT X
  obtain ⟨v, st₀, t, T', Lo, h0, X', hLo, e1, -, ⟨hv, hP1, hz, hk⟩, st⟩ := hr T hT X
  cases hv
  rw [h0] at hz hk
  obtain ⟨hPn, hDn, hSn⟩ := k_join (t := t.heap) hP hD hS is hs hL hadr hput hP1 hz hk hLo
  obtain ⟨t2, a1, b1⟩ := kk T'.heap (locs ++ Lo) (by rw [e1]; exact hPn) hDn (by rw [e1]; exact hSn) T' rfl X'
  exact ⟨t2, st t2 a1, b1⟩
/-- a field written -/
theorem k_putf {cc : ByteArray} (hexec : p.tables.exec = Jvm.exec) (hb : c.code = cc) {own ref C : String} {T : u_T} {N ci index a : Nat} {Ts : List Cond} (hts : ∀ w ∈ Ts, w.before args s = true) (hin : ∀ w ∈ u_ws C T N, w ∈ Ts) (ty0 : Nat → FieldType) (hty : ∀ k, k < N → parseFieldDescriptor (T k).2.2.1 = some (ty0 k)) (hnm : ∀ a, a < N → ∀ b, b < N → a ≠ b → (T a).2.1 ≠ (T b).2.1) (hown : s.vm.findClass own = some m.cls) (hK : gK dC dI cI cJ s) (hP : va_P (dC, dI) vwCl ws H) (hD : va_D A ws) (hS0 : va_S A s.heap H locs) (q0 : Nat) {fs : List Value} (he : ws[q0]? = some (a, .inr (ci, fs))) (hc : vwCl[ci]? = some (C, T, N)) (k : Nat) (hk : k < N) (hlink : (Cond.fieldLink own index ref (T k).2.1 (T k).2.2.1).before args s = true) (href : (T k).1 = ref) (hfin : (T k).2.2.2 = false) {ty : FieldType} {v : Value} (hd : ty0 k = ty) (hn : narrow ty v = v) (hfit : fits ty v = true) (hl : k < fs.length)
    (hdg : decode cc pc = .ok (.putfield index, 3)) (hset : ws.set q0 (a, .inr (ci, fs.set k v)) = ws') (kk : ∀ (H1 : Heap) (locs1 : List Loc), va_P (dC, dI) vwCl ws' H1 → va_D A ws' → va_S A s.heap H1 locs1 → W p l e R s m args below meth c H1 locs1 cells slots Q (F0 m (pc + 3) ls rest)) : W p l e R s m args below meth c H locs cells slots Q (F0 m pc ls (v :: .ref a :: rest)) := by
  subst hset
  exact va_put (D := (dC, dI)) hexec hb hts hin ty0 hty hnm hown hK.1 hP hD hS0 q0 he hc k hk hlink (fun _ h => by rw [← href]; exact h) hfin (by rw [hty k hk, hd]) hn hfit hl hdg kk
/-- a field read -/
theorem k_get {cc : ByteArray} (hexec : p.tables.exec = Jvm.exec) (hb : c.code = cc) {own ref C : String} {T : u_T} {N ci index a : Nat} {Ts : List Cond} (hts : ∀ w ∈ Ts, w.before args s = true) (hin : ∀ w ∈ u_ws C T N, w ∈ Ts) (hown : s.vm.findClass own = some m.cls) (hK : gK dC dI cI cJ s) (hP : va_P (dC, dI) vwCl ws H) (q0 : Nat) {fs : List Value} (he : ws[q0]? = some (a, .inr (ci, fs))) (hc : vwCl[ci]? = some (C, T, N)) (k : Nat) (hk : k < N) (hlink : (Cond.fieldLink own index ref (T k).2.1 (T k).2.2.1).before args s = true) (href : (T k).1 = ref) {v : Value} (hv : fs[k]? = some v) (hdg : decode cc pc = .ok (.getfield index, 3))
    (kk : W p l e R s m args below meth c H locs cells slots Q (F0 m (pc + 3) ls (v :: rest))) : W p l e R s m args below meth c H locs cells slots Q (F0 m pc ls (.ref a :: rest)) :=
  va_get (D := (dC, dI)) hexec hb hts hin hown hK.1 hP q0 he hc k hk hlink (fun _ h => by rw [← href]; exact h) hv hdg kk
/-- a nest mate's private field read -/
theorem k_getN {cc : ByteArray} (hexec : p.tables.exec = Jvm.exec) (hb : c.code = cc) {own ref C host : String} {T : u_T} {N ci index a : Nat} {Ts : List Cond} (hts : ∀ w ∈ Ts, w.before args s = true) (hin : ∀ w ∈ u_ws C T N, w ∈ Ts) (hown : s.vm.findClass own = some m.cls) (hK : gK dC dI cI cJ s) (hP : va_P (dC, dI) vwCl ws H) (q0 : Nat) {fs : List Value} (he : ws[q0]? = some (a, .inr (ci, fs))) (hc : vwCl[ci]? = some (C, T, N)) (k : Nat) (hk : k < N) (hmem : (own, index, ref, (T k).2.1, (T k).2.2.1, host) ∈ gNF) (href : (T k).1 = ref) {v : Value} (hv : fs[k]? = some v) (hdg : decode cc pc = .ok (.getfield index, 3))
    (kk : W p l e R s m args below meth c H locs cells slots Q (F0 m (pc + 3) ls (v :: rest))) : W p l e R s m args below meth c H locs cells slots Q (F0 m pc ls (.ref a :: rest)) :=
  va_getN (D := (dC, dI)) hexec hb hts hin hown hK.1 hP q0 he hc k hk (va_Nw.use rfl (hK.2.1 _ hmem)) (fun _ h => by rw [← href]; exact h) hv hdg kk
/-- an int read -/
theorem k_iald {cc : ByteArray} (hexec : p.tables.exec = Jvm.exec) (hb : c.code = cc) {a : Nat} (hK : gK dC dI cI cJ s) (hP : va_P (dC, dI) vwCl ws H) (q0 : Nat) {n : Nat} {f : Nat → Int32} (ha : ws[q0]? = some (a, .inl (cI, n, .inl f))) {i : Int32} (hin : vp_in i n) (hdg : decode cc pc = .ok (.iaload, 1))
    (kk : W p l e R s m args below meth c H locs cells slots Q (F0 m (pc + 1) ls (.int (f i.toNatClampNeg) :: rest))) : W p l e R s m args below meth c H locs cells slots Q (F0 m pc ls (.int i :: .ref a :: rest)) := va_iald hexec hb hK.1 hP q0 0 ha rfl hin hdg kk
/-- an int written -/
theorem k_iast {cc : ByteArray} (hexec : p.tables.exec = Jvm.exec) (hb : c.code = cc) {a : Nat} (hK : gK dC dI cI cJ s) (hP : va_P (dC, dI) vwCl ws H) (hD : va_D A ws) (hS : va_S A s.heap H locs) (q0 : Nat) {n : Nat} {f : Nat → Int32} (ha : ws[q0]? = some (a, .inl (cI, n, .inl f))) {i x : Int32} (hin : vp_in i n) (hdg : decode cc pc = .ok (.iastore, 1)) (hset : ws.set q0 (a, .inl (cI, n, .inl (upd f i.toNatClampNeg x))) = ws')
    (kk : ∀ (H1 : Heap) (locs1 : List Loc), va_P (dC, dI) vwCl ws' H1 → va_D A ws' → va_S A s.heap H1 locs1 → W p l e R s m args below meth c H1 locs1 cells slots Q (F0 m (pc + 1) ls rest)) : W p l e R s m args below meth c H locs cells slots Q (F0 m pc ls (.int x :: .int i :: .ref a :: rest)) := by
  subst hset
  exact va_iast hexec hb hK.1 hP hD hS q0 0 ha rfl hin hdg kk
theorem k_alen {cc : ByteArray} (hexec : p.tables.exec = Jvm.exec) (hb : c.code = cc) {a : Nat} (hK : gK dC dI cI cJ s) (hP : va_P (dC, dI) vwCl ws H) (q0 : Nat) {n : Nat} {f : Nat → Int32} (ha : ws[q0]? = some (a, .inl (cI, n, .inl f))) (hdg : decode cc pc = .ok (.arraylength, 1))
    (kk : W p l e R s m args below meth c H locs cells slots Q (F0 m (pc + 1) ls (.int (nI n) :: rest))) : W p l e R s m args below meth c H locs cells slots Q (F0 m pc ls (.ref a :: rest)) := va_alen hexec hb hK.1 hP q0 0 ha (ty := .int) rfl rfl hdg kk
/-- the end of a method that reads -/
theorem k_iretP {cc : ByteArray} {v r : Int32} {ret : Option FieldType} (hexec : p.tables.exec = Jvm.exec) (hb : c.code = cc) (hr : meth.sig.returnType = some .int) (hlocks : meth.locks = false) (hv : v = r) (hH : H = s.heap) (hdg : decode cc pc = .ok (.ireturn, 1)) : W p l e R s m args below meth c H [] cells slots (MQ below (vp_Si (fun x => x = r)) args s cells slots (fun _ => False)) (F0 m pc ls [.int v]) :=
  W.iret hexec hb hr (fun t ht _ => ⟨v, rfl, hv, ht.trans hH⟩) (fun _ h => nomatch h) hdg
theorem k_zretP {cc : ByteArray} {v r : Int32} {ret : Option FieldType} (hexec : p.tables.exec = Jvm.exec) (hb : c.code = cc) (hr : meth.sig.returnType = some .boolean) (hlocks : meth.locks = false) (hv : v = r) (h01 : v = 0 ∨ v = 1) (hH : H = s.heap) (hdg : decode cc pc = .ok (.ireturn, 1)) : W p l e R s m args below meth c H [] cells slots (MQ below (vp_Si (fun x => x = r)) args s cells slots (fun _ => False)) (F0 m pc ls [.int v]) := by
  rcases h01 with rfl | rfl
  · exact W.zret hexec hb hr rfl (fun t ht _ => ⟨_, rfl, hv, ht.trans hH⟩) (fun _ h => nomatch h) hdg
  · exact W.zret hexec hb hr rfl (fun t ht _ => ⟨_, rfl, hv, ht.trans hH⟩) (fun _ h => nomatch h) hdg
/-- the end of a method that writes -/
theorem k_iretW {cc : ByteArray} {L : List Nat} {v : Int32} {rr : Option Value} (hexec : p.tables.exec = Jvm.exec) (hb : c.code = cc) (hr : meth.sig.returnType = some .int) (hlocks : meth.locks = false) (hP : va_P (dC, dI) vwCl ws H) (hS : va_S (mA L) s.heap H locs) (hv : some (.int v) = rr) (hw : ws = ws') (hdg : decode cc pc = .ok (.ireturn, 1)) : W p l e R s m args below meth c H locs cells slots (MQ below (mQ dC dI ws' L rr) args s cells slots (mA L)) (F0 m pc ls [.int v]) := by
  subst hw; subst hv
  exact W.iret hexec hb hr (fun t ht _ => ⟨rfl, by rw [ht]; exact hP, hS.F ht⟩) hS.2.2 hdg
theorem k_vretW {cc : ByteArray} {L : List Nat} (hexec : p.tables.exec = Jvm.exec) (hb : c.code = cc) (hr : meth.sig.returnType = none) (hlocks : meth.locks = false) (hP : va_P (dC, dI) vwCl ws H) (hS : va_S (mA L) s.heap H locs) (hw : ws = ws') (hdg : decode cc pc = .ok (.return_, 1)) : W p l e R s m args below meth c H locs cells slots (MQ below (mQ dC dI ws' L none) args s cells slots (mA L)) (F0 m pc ls []) := by
  subst hw
  exact W.vret hexec hb hr (fun t ht _ => ⟨rfl, by rw [ht]; exact hP, hS.F ht⟩) hS.2.2 hdg
end KB
theorem k_Dw {ws : va_W} {L : List Nat} (hD : va_D (fun _ => True) ws) (h : ws.map Prod.fst = L) : va_D (mA L) ws := ⟨hD.1, fun k q hk => by
  rw [← h]
  exact List.mem_map.mpr ⟨q, List.mem_of_getElem? hk, rfl⟩⟩
/-! LOOPS: a counter i up to a bound b; a step goes on, or ends with an answer -/
theorem k_dec {i b : Int32} (h : ¬ b ≤ i) : (b.toInt - (i + 1).toInt).toNat < (b.toInt - i.toInt).toNat := by
  have h1 : ¬ b.toInt ≤ i.toInt := fun q => h (Int32.le_iff_toInt_le.mpr q)
  have h2 := b.toInt_lt
  have h3 := i.le_toInt
  have h4 : (i + 1).toInt = i.toInt + 1 := by
    rw [Int32.toInt_add]
    have : (1 : Int32).toInt = 1 := rfl
    rw [this]
    apply Int.bmod_eq_of_le <;> omega
  omega
def loopE {S T : Type} (b : Int32) (step : Int32 → S → S ⊕ T) (fin : S → T) (i : Int32) (x : S) : T :=
  if h : b ≤ i then fin x else match step i x with
    | .inl y => loopE b step fin (i + 1) y
    | .inr r => r
termination_by (b.toInt - i.toInt).toNat
decreasing_by exact k_dec h
theorem loopE_exit {S T : Type} {b : Int32} {step : Int32 → S → S ⊕ T} {fin : S → T} {i : Int32} {x : S} (h : b ≤ i) : loopE b step fin i x = fin x := by rw [loopE, dif_pos h]
theorem loopE_go {S T : Type} {b : Int32} {step : Int32 → S → S ⊕ T} {fin : S → T} {i : Int32} {x y : S} (h : ¬ b ≤ i) (hs : step i x = .inl y) : loopE b step fin i x = loopE b step fin (i + 1) y := by rw [loopE, dif_neg h, hs]
theorem loopE_ret {S T : Type} {b : Int32} {step : Int32 → S → S ⊕ T} {fin : S → T} {i : Int32} {x : S} {r : T} (h : ¬ b ≤ i) (hs : step i x = .inr r) : loopE b step fin i x = r := by rw [loopE, dif_neg h, hs]
end
section
/-! CELLS: what each method of Cells answers and leaves, as the code has it -/
abbrev ushr (x y : Int32) : Int32 := (x.toUInt32 >>> (y.toUInt32 &&& Int32.toUInt32 31)).toInt32
abbrev mmax (x y : Int32) : Int32 := if x < y then y else x
abbrev mmin (x y : Int32) : Int32 := if y < x then y else x
def ca_at (N : Nat) (f : Nat → Int32) (i : Int32) : Int32 := if i < 0 then 0 else if nI N ≤ i then 0 else f (i).toNatClampNeg
def ca_set (N : Nat) (f : Nat → Int32) (i v : Int32) : Nat → Int32 := if i < 0 then f else if nI N ≤ i then f else upd f (i).toNatClampNeg v
def ca_copy (N : Nat) (f : Nat → Int32) (M : Nat) (g : Nat → Int32) (first behind : Int32) : Nat → Int32 := loopE behind (fun i (x : Nat → Int32) => (.inl (ca_set N x i (ca_at M g i)) : (Nat → Int32) ⊕ (Nat → Int32))) id first f
def ca_isZero (N : Nat) (f : Nat → Int32) (first : Int32) : Int32 := loopE (nI N) (fun i (_ : Unit) => if ca_at N f i = 0 then (.inl () : Unit ⊕ Int32) else .inr 0) (fun _ => 1) first ()
def ca_num (N : Nat) (f : Nat → Int32) (place bytes : Int32) : Int32 := loopE bytes (fun i (x : Int32) => (.inl ((x <<< ((8 : Int32) &&& 31)) ||| (ca_at N f (place + i))) : Int32 ⊕ Int32)) id 0 0
def ca_setNum (N : Nat) (f : Nat → Int32) (place bytes number : Int32) : Nat → Int32 := loopE bytes (fun i (x : Nat → Int32) => (.inl (ca_set N x (place + i) ((ushr number (8 * ((bytes - 1) - i))) &&& 255)) : (Nat → Int32) ⊕ (Nat → Int32))) id 0 f
theorem k_in {N : Nat} (hN : N < 2 ^ 31) {i : Int32} (h1 : ¬ i < 0) (h2 : ¬ nI N ≤ i) : vp_in i N := by
  rcases pk_ix i hN with h | h | ⟨j, hj, rfl⟩
  · exact absurd h h1
  · exact absurd h h2
  · exact vp_in_nI hj hN
theorem k_meas {i b : Int32} {n : Nat} (h : ¬ b ≤ i) (hm : (b.toInt - i.toInt).toNat < n + 1) : (b.toInt - (i + 1).toInt).toNat < n := Nat.lt_of_lt_of_le (k_dec h) (Nat.le_of_lt_succ hm)
theorem hdn_X0_length : yX0_length.cls ≠ "java/lang/invoke/MethodHandle" ∧ yX0_length.cls ≠ "java/lang/invoke/VarHandle" ∧ (parseMethodDescriptor yX0_length.desc).map (fun d => d.parameters.length) = some 0 := by decide +kernel
theorem hdv_X0_length : yX0_length.cls = RX0 ∧ yX0_length.cls ≠ "java/lang/invoke/MethodHandle" ∧ yX0_length.cls ≠ "java/lang/invoke/VarHandle" ∧ (parseMethodDescriptor yX0_length.desc).map (fun d => d.parameters.length) = some 0 := ⟨rfl, hdn_X0_length⟩
theorem hdn_X0_at : yX0_at.cls ≠ "java/lang/invoke/MethodHandle" ∧ yX0_at.cls ≠ "java/lang/invoke/VarHandle" ∧ (parseMethodDescriptor yX0_at.desc).map (fun d => d.parameters.length) = some 1 := by decide +kernel
theorem hdv_X0_at : yX0_at.cls = RX0 ∧ yX0_at.cls ≠ "java/lang/invoke/MethodHandle" ∧ yX0_at.cls ≠ "java/lang/invoke/VarHandle" ∧ (parseMethodDescriptor yX0_at.desc).map (fun d => d.parameters.length) = some 1 := ⟨rfl, hdn_X0_at⟩
theorem hdn_X0_set : yX0_set.cls ≠ "java/lang/invoke/MethodHandle" ∧ yX0_set.cls ≠ "java/lang/invoke/VarHandle" ∧ (parseMethodDescriptor yX0_set.desc).map (fun d => d.parameters.length) = some 2 := by decide +kernel
theorem hdv_X0_set : yX0_set.cls = RX0 ∧ yX0_set.cls ≠ "java/lang/invoke/MethodHandle" ∧ yX0_set.cls ≠ "java/lang/invoke/VarHandle" ∧ (parseMethodDescriptor yX0_set.desc).map (fun d => d.parameters.length) = some 2 := ⟨rfl, hdn_X0_set⟩
theorem hdn_X0_copy : yX0_copy.cls ≠ "java/lang/invoke/MethodHandle" ∧ yX0_copy.cls ≠ "java/lang/invoke/VarHandle" ∧ (parseMethodDescriptor yX0_copy.desc).map (fun d => d.parameters.length) = some 3 := by decide +kernel
theorem hdv_X0_copy : yX0_copy.cls = RX0 ∧ yX0_copy.cls ≠ "java/lang/invoke/MethodHandle" ∧ yX0_copy.cls ≠ "java/lang/invoke/VarHandle" ∧ (parseMethodDescriptor yX0_copy.desc).map (fun d => d.parameters.length) = some 3 := ⟨rfl, hdn_X0_copy⟩
theorem hdn_X0_isZeroFrom : yX0_isZeroFrom.cls ≠ "java/lang/invoke/MethodHandle" ∧ yX0_isZeroFrom.cls ≠ "java/lang/invoke/VarHandle" ∧ (parseMethodDescriptor yX0_isZeroFrom.desc).map (fun d => d.parameters.length) = some 1 := by decide +kernel
theorem hdv_X0_isZeroFrom : yX0_isZeroFrom.cls = RX0 ∧ yX0_isZeroFrom.cls ≠ "java/lang/invoke/MethodHandle" ∧ yX0_isZeroFrom.cls ≠ "java/lang/invoke/VarHandle" ∧ (parseMethodDescriptor yX0_isZeroFrom.desc).map (fun d => d.parameters.length) = some 1 := ⟨rfl, hdn_X0_isZeroFrom⟩
theorem hdn_X0_numberAt : yX0_numberAt.cls ≠ "java/lang/invoke/MethodHandle" ∧ yX0_numberAt.cls ≠ "java/lang/invoke/VarHandle" ∧ (parseMethodDescriptor yX0_numberAt.desc).map (fun d => d.parameters.length) = some 2 := by decide +kernel
theorem hdv_X0_numberAt : yX0_numberAt.cls = RX0 ∧ yX0_numberAt.cls ≠ "java/lang/invoke/MethodHandle" ∧ yX0_numberAt.cls ≠ "java/lang/invoke/VarHandle" ∧ (parseMethodDescriptor yX0_numberAt.desc).map (fun d => d.parameters.length) = some 2 := ⟨rfl, hdn_X0_numberAt⟩
theorem hdn_X0_setNumber : yX0_setNumber.cls ≠ "java/lang/invoke/MethodHandle" ∧ yX0_setNumber.cls ≠ "java/lang/invoke/VarHandle" ∧ (parseMethodDescriptor yX0_setNumber.desc).map (fun d => d.parameters.length) = some 3 := by decide +kernel
theorem hdv_X0_setNumber : yX0_setNumber.cls = RX0 ∧ yX0_setNumber.cls ≠ "java/lang/invoke/MethodHandle" ∧ yX0_setNumber.cls ≠ "java/lang/invoke/VarHandle" ∧ (parseMethodDescriptor yX0_setNumber.desc).map (fun d => d.parameters.length) = some 3 := ⟨rfl, hdn_X0_setNumber⟩
set_option maxHeartbeats 4000000 in
set_option maxRecDepth 100000 in
theorem m_X0_length (l : Launch) (dC : Nat → ClassId) (dI : Nat → Nat → Nat) (cI cJ : ClassId) (h0 : Nat) (a0 : Nat) (N : Nat) (f : Nat → Int32)  : cP l yX0_length wsX0_length ({ frames := 0, cells := 0, slots := 0, locals := 0 }) dC dI cI cJ [(h0, .inr (1, [.ref a0])), (a0, .inl (cI, N, .inl f))] [.ref h0] (nI N) := by
  refine Met.ofW (cc := cX0_length) (maxL := 1) (ret := (some .int)) (by decide) rfl ?_
  intro p e s m args below meth c s₁ B hml hv
  obtain ⟨rfl, hP, hK⟩ := hv
  have hx := B.exec
  have hb := B.bytes
  have hr := B.returns
  have hts := atoms_spec (ws := wsX0_length) B.pre
  have hown : s.vm.findClass RX0 = some m.cls := findClass_of_methodNamed B.named
  have hlocks := B.notSynchronized
  have inX0 : ∀ w ∈ wsX00, w ∈ wsX0_length := fun w h => (List.mem_cons_of_mem _ (List.mem_append_right _ h))
  have fl15 := hts (.fieldLink RX0 15 "StockLog$Cells" "cells" "[I") (by decide +kernel)
  have hl := lv_entry ([.ref h0]) (n := 1) (Nat.le_of_ble_eq_true rfl)
  rw [lg_entry_eq]
  generalize (lg_sl ([.ref h0]) ++ List.replicate (1 - (lg_sl ([.ref h0])).length) Slot.unset).toArray = ls at hl ⊢
  have hl : lv_has ls 1 [(0, .ref h0)] := hl
  refine lv_aload_n hx hb dX0_length_0 rfl (lv_at hl 0 rfl) ?_
  refine k_get (ci := 1) (T := TX0) (N := 1) (C := RX0) hx hb hts inX0 hown hK hP 0 rfl rfl 0 (by decide) fl15 rfl rfl dX0_length_1 ?_
  refine k_alen hx hb hK hP 1 rfl dX0_length_4 ?_
  exact k_iretP (ret := none) hx hb hr hlocks rfl rfl dX0_length_5
set_option maxHeartbeats 4000000 in
set_option maxRecDepth 100000 in
theorem m_X0_at (l : Launch) (dC : Nat → ClassId) (dI : Nat → Nat → Nat) (cI cJ : ClassId) (h0 : Nat) (a0 : Nat) (N : Nat) (f : Nat → Int32) (i : Int32) (hN : N < 2 ^ 31) : cP l yX0_at wsX0_at ({ frames := 0, cells := 0, slots := 0, locals := 0 }) dC dI cI cJ [(h0, .inr (1, [.ref a0])), (a0, .inl (cI, N, .inl f))] [.ref h0, .int i] (ca_at N f i) := by
  refine Met.ofW (cc := cX0_at) (maxL := 2) (ret := (some .int)) (by decide) rfl ?_
  intro p e s m args below meth c s₁ B hml hv
  obtain ⟨rfl, hP, hK⟩ := hv
  have hx := B.exec
  have hb := B.bytes
  have hr := B.returns
  have hts := atoms_spec (ws := wsX0_at) B.pre
  have hown : s.vm.findClass RX0 = some m.cls := findClass_of_methodNamed B.named
  have hlocks := B.notSynchronized
  have inX0 : ∀ w ∈ wsX00, w ∈ wsX0_at := fun w h => (List.mem_cons_of_mem _ (List.mem_append_right _ h))
  have fl15 := hts (.fieldLink RX0 15 "StockLog$Cells" "cells" "[I") (by decide +kernel)
  have hl := lv_entry ([.ref h0, .int i]) (n := 2) (Nat.le_of_ble_eq_true rfl)
  rw [lg_entry_eq]
  generalize (lg_sl ([.ref h0, .int i]) ++ List.replicate (2 - (lg_sl ([.ref h0, .int i])).length) Slot.unset).toArray = ls at hl ⊢
  have hl : lv_has ls 2 [(0, .ref h0), (1, .int i)] := hl
  refine lv_iload_n hx hb dX0_at_0 rfl (lv_at hl 1 rfl) ?_
  refine lv_if_lt (tgt := 22) hx hb dX0_at_1 (by decide) (fun c1 => ?_) (fun c1 => ?_)
  · refine lv_iconst (v := 0) hx hb dX0_at_22 (by decide) ?_
    exact k_iretP (ret := none) hx hb hr hlocks (by simp only [ca_at, if_pos c1]) rfl dX0_at_23
  · refine lv_iload_n hx hb dX0_at_4 rfl (lv_at hl 1 rfl) ?_
    refine lv_aload_n hx hb dX0_at_5 rfl (lv_at hl 0 rfl) ?_
    refine k_get (ci := 1) (T := TX0) (N := 1) (C := RX0) hx hb hts inX0 hown hK hP 0 rfl rfl 0 (by decide) fl15 rfl rfl dX0_at_6 ?_
    refine k_alen hx hb hK hP 1 rfl dX0_at_9 ?_
    refine lv_icmp_ge (tgt := 22) hx hb dX0_at_10 (by decide) (fun c2 => ?_) (fun c2 => ?_)
    · refine lv_iconst (v := 0) hx hb dX0_at_22 (by decide) ?_
      exact k_iretP (ret := none) hx hb hr hlocks (by simp only [ca_at, if_neg c1, if_pos c2]) rfl dX0_at_23
    · refine lv_aload_n hx hb dX0_at_13 rfl (lv_at hl 0 rfl) ?_
      refine k_get (ci := 1) (T := TX0) (N := 1) (C := RX0) hx hb hts inX0 hown hK hP 0 rfl rfl 0 (by decide) fl15 rfl rfl dX0_at_14 ?_
      refine lv_iload_n hx hb dX0_at_17 rfl (lv_at hl 1 rfl) ?_
      refine k_iald hx hb hK hP 1 rfl (k_in hN c1 c2) dX0_at_18 ?_
      refine lv_goto (tgt := 23) hx hb dX0_at_19 (by decide) ?_
      exact k_iretP (ret := none) hx hb hr hlocks (by simp only [ca_at, if_neg c1, if_neg c2]) rfl dX0_at_23
set_option maxHeartbeats 4000000 in
set_option maxRecDepth 100000 in
theorem m_X0_set (l : Launch) (dC : Nat → ClassId) (dI : Nat → Nat → Nat) (cI cJ : ClassId) (h0 : Nat) (a0 : Nat) (N : Nat) (f : Nat → Int32) (i : Int32) (v : Int32) (hN : N < 2 ^ 31) : cW l yX0_set wsX0_set ({ frames := 0, cells := 0, slots := 0, locals := 0 }) dC dI cI cJ [(h0, .inr (1, [.ref a0])), (a0, .inl (cI, N, .inl f))] [(h0, .inr (1, [.ref a0])), (a0, .inl (cI, N, .inl (ca_set N f i v)))] [h0, a0] [.ref h0, .int i, .int v] none := by
  refine Met.ofW (cc := cX0_set) (maxL := 3) (ret := none) (by decide) rfl ?_
  intro p e s m args below meth c s₁ B hml hv
  obtain ⟨rfl, hP, hK, hD0⟩ := hv
  have hx := B.exec
  have hb := B.bytes
  have hr := B.returns
  have hts := atoms_spec (ws := wsX0_set) B.pre
  have hown : s.vm.findClass RX0 = some m.cls := findClass_of_methodNamed B.named
  have hlocks := B.notSynchronized
  have inX0 : ∀ w ∈ wsX00, w ∈ wsX0_set := fun w h => (List.mem_cons_of_mem _ (List.mem_append_right _ h))
  have fl15 := hts (.fieldLink RX0 15 "StockLog$Cells" "cells" "[I") (by decide +kernel)
  have hD : va_D (mA [h0, a0]) [(h0, .inr (1, [.ref a0])), (a0, .inl (cI, N, .inl f))] := k_Dw hD0 rfl
  have hS : va_S (mA [h0, a0]) s.heap s.heap [] := va_S.rf
  have hl := lv_entry ([.ref h0, .int i, .int v]) (n := 3) (Nat.le_of_ble_eq_true rfl)
  rw [lg_entry_eq]
  generalize (lg_sl ([.ref h0, .int i, .int v]) ++ List.replicate (3 - (lg_sl ([.ref h0, .int i, .int v])).length) Slot.unset).toArray = ls at hl ⊢
  have hl : lv_has ls 3 [(0, .ref h0), (1, .int i), (2, .int v)] := hl
  refine lv_iload_n hx hb dX0_set_0 rfl (lv_at hl 1 rfl) ?_
  refine lv_if_lt (tgt := 20) hx hb dX0_set_1 (by decide) (fun c1 => ?_) (fun c1 => ?_)
  · exact k_vretW hx hb hr hlocks hP hS (by simp only [ca_set, if_pos c1]) dX0_set_20
  · refine lv_iload_n hx hb dX0_set_4 rfl (lv_at hl 1 rfl) ?_
    refine lv_aload_n hx hb dX0_set_5 rfl (lv_at hl 0 rfl) ?_
    refine k_get (ci := 1) (T := TX0) (N := 1) (C := RX0) hx hb hts inX0 hown hK hP 0 rfl rfl 0 (by decide) fl15 rfl rfl dX0_set_6 ?_
    refine k_alen hx hb hK hP 1 rfl dX0_set_9 ?_
    refine lv_icmp_ge (tgt := 20) hx hb dX0_set_10 (by decide) (fun c2 => ?_) (fun c2 => ?_)
    · exact k_vretW hx hb hr hlocks hP hS (by simp only [ca_set, if_neg c1, if_pos c2]) dX0_set_20
    · refine lv_aload_n hx hb dX0_set_13 rfl (lv_at hl 0 rfl) ?_
      refine k_get (ci := 1) (T := TX0) (N := 1) (C := RX0) hx hb hts inX0 hown hK hP 0 rfl rfl 0 (by decide) fl15 rfl rfl dX0_set_14 ?_
      refine lv_iload_n hx hb dX0_set_17 rfl (lv_at hl 1 rfl) ?_
      refine lv_iload_n hx hb dX0_set_18 rfl (lv_at hl 2 rfl) ?_
      refine k_iast (ws' := [(h0, .inr (1, [.ref a0])), (a0, .inl (cI, N, .inl (upd f (i).toNatClampNeg v)))]) hx hb hK hP hD hS 1 rfl (k_in hN c1 c2) dX0_set_19 rfl (fun H locs hP hD hS => ?_)
      exact k_vretW hx hb hr hlocks hP hS (by simp only [ca_set, if_neg c1, if_neg c2]) dX0_set_20
set_option maxHeartbeats 4000000 in
set_option maxRecDepth 100000 in
theorem m_X0_copy (l : Launch) (dC : Nat → ClassId) (dI : Nat → Nat → Nat) (cI cJ : ClassId) (h0 : Nat) (a0 : Nat) (N : Nat) (f : Nat → Int32) (h1 : Nat) (a1 : Nat) (M : Nat) (g : Nat → Int32) (first : Int32) (behind : Int32) (hN : N < 2 ^ 31) (hM : M < 2 ^ 31) : cW l yX0_copy wsX0_copy ({ frames := 1, cells := 0, slots := 0, locals := 22 }) dC dI cI cJ [(h0, .inr (1, [.ref a0])), (a0, .inl (cI, N, .inl f)), (h1, .inr (1, [.ref a1])), (a1, .inl (cI, M, .inl g))] [(h0, .inr (1, [.ref a0])), (a0, .inl (cI, N, .inl (ca_copy N f M g first behind))), (h1, .inr (1, [.ref a1])), (a1, .inl (cI, M, .inl g))] [h0, a0, h1, a1] [.ref h0, .ref h1, .int first, .int behind] none := by
  refine Met.ofW (cc := cX0_copy) (maxL := 5) (ret := none) (by decide) rfl ?_
  intro p e s m args below meth c s₁ B hml hv
  obtain ⟨rfl, hP, hK, hD0⟩ := hv
  have hx := B.exec
  have hb := B.bytes
  have hr := B.returns
  have hts := atoms_spec (ws := wsX0_copy) B.pre
  have hown : s.vm.findClass RX0 = some m.cls := findClass_of_methodNamed B.named
  have hlocks := B.notSynchronized
  have hD : va_D (mA [h0, a0, h1, a1]) [(h0, .inr (1, [.ref a0])), (a0, .inl (cI, N, .inl f)), (h1, .inr (1, [.ref a1])), (a1, .inl (cI, M, .inl g))] := k_Dw hD0 rfl
  have hS : va_S (mA [h0, a0, h1, a1]) s.heap s.heap [] := va_S.rf
  have hl := lv_entry ([.ref h0, .ref h1, .int first, .int behind]) (n := 5) (Nat.le_of_ble_eq_true rfl)
  rw [lg_entry_eq]
  generalize (lg_sl ([.ref h0, .ref h1, .int first, .int behind]) ++ List.replicate (5 - (lg_sl ([.ref h0, .ref h1, .int first, .int behind])).length) Slot.unset).toArray = ls at hl ⊢
  have hl : lv_has ls 5 [(0, .ref h0), (1, .ref h1), (2, .int first), (3, .int behind)] := hl
  refine lv_iload_n hx hb dX0_copy_0 rfl (lv_at hl 2 rfl) ?_
  refine lv_istore (lv' := [(4, .int first), (0, .ref h0), (1, .ref h1), (2, .int first), (3, .int behind)]) hx hb dX0_copy_1 hl (by decide) rfl (fun ls hl => ?_)
  have loop3 : ∀ (n : Nat) (i : Int32) (x : Nat → Int32) (H : Heap) (locs : List Loc) (ls : Array Slot), (loopE behind (fun i (x : Nat → Int32) => (.inl (ca_set N x i (ca_at M g i)) : (Nat → Int32) ⊕ (Nat → Int32))) id i x = ca_copy N f M g first behind) → (behind.toInt - i.toInt).toNat < n → va_P (dC, dI) vwCl [(h0, .inr (1, [.ref a0])), (a0, .inl (cI, N, .inl x)), (h1, .inr (1, [.ref a1])), (a1, .inl (cI, M, .inl g))] H → va_D (mA [h0, a0, h1, a1]) [(h0, .inr (1, [.ref a0])), (a0, .inl (cI, N, .inl x)), (h1, .inr (1, [.ref a1])), (a1, .inl (cI, M, .inl g))] → va_S (mA [h0, a0, h1, a1]) s.heap H locs → lv_has ls 5 [(4, .int i), (0, .ref h0), (1, .ref h1), (2, .int first), (3, .int behind)] → W p l e (headSpec wsX0_copy ({ frames := 1, cells := 0, slots := 0, locals := 22 })).room s m ([.ref h0, .ref h1, .int first, .int behind] : List Value).toArray below meth c H locs 0 0 (MQ below (mQ dC dI [(h0, .inr (1, [.ref a0])), (a0, .inl (cI, N, .inl (ca_copy N f M g first behind))), (h1, .inr (1, [.ref a1])), (a1, .inl (cI, M, .inl g))] [h0, a0, h1, a1] none) ([.ref h0, .ref h1, .int first, .int behind] : List Value).toArray s 0 0 (mA [h0, a0, h1, a1])) (F0 m 3 ls []) := by
    intro n
    induction n with
    | zero => intro i x H locs ls hi hm; exact absurd hm (Nat.not_lt_zero _)
    | succ n ih =>
      intro i x H locs ls hi hm hP hD hS hl
      refine lv_iload hx hb dX0_copy_3 (lv_at hl 0 rfl) ?_
      refine lv_iload_n hx hb dX0_copy_5 rfl (lv_at hl 4 rfl) ?_
      refine lv_icmp_ge (tgt := 27) hx hb dX0_copy_6 (by decide) (fun c1 => ?_) (fun c1 => ?_)
      · exact k_vretW hx hb hr hlocks hP hS (by rw [← hi, loopE_exit c1]; rfl) dX0_copy_27
      · refine lv_aload_n hx hb dX0_copy_9 rfl (lv_at hl 1 rfl) ?_
        refine lv_iload hx hb dX0_copy_10 (lv_at hl 0 rfl) ?_
        refine lv_aload_n hx hb dX0_copy_12 rfl (lv_at hl 2 rfl) ?_
        refine lv_iload hx hb dX0_copy_13 (lv_at hl 0 rfl) ?_
        refine k_afP (va_runV (rest := [.int i, .ref h0]) ⟨hx, hb, hml, hown, hts⟩ (m_X0_at l dC dI cI cJ h1 a1 M g i (by first | assumption | decide)) (cwV 1 hts gX0_copy_X0_at rfl rfl rfl hdv_X0_at ⟨Nat.le_of_ble_eq_true rfl, Nat.le_of_ble_eq_true rfl⟩) (k_preVP hK hP [2, 3] rfl 2 rfl rfl) rfl rfl hl.1 rfl (lv_room (Nat.le_of_ble_eq_true rfl)) dX0_copy_15 ⟨Nat.le_of_ble_eq_true rfl, Nat.le_of_ble_eq_true rfl⟩) ?_
        refine k_afW (wc := [(h0, .inr (1, [.ref a0])), (a0, .inl (cI, N, .inl x))]) (ws' := [(h0, .inr (1, [.ref a0])), (a0, .inl (cI, N, .inl (ca_set N x i (ca_at M g i)))), (h1, .inr (1, [.ref a1])), (a1, .inl (cI, M, .inl g))]) (va_runV (rest := []) ⟨hx, hb, hml, hown, hts⟩ (m_X0_set l dC dI cI cJ h0 a0 N x i (ca_at M g i) (by first | assumption | decide)) (cwV 2 hts gX0_copy_X0_set rfl rfl rfl hdv_X0_set ⟨Nat.le_of_ble_eq_true rfl, Nat.le_of_ble_eq_true rfl⟩) (k_preVW hK hP hD [0, 1] rfl rfl 0 rfl rfl) rfl rfl hl.1 rfl (lv_room (Nat.le_of_ble_eq_true rfl)) dX0_copy_18 ⟨Nat.le_of_ble_eq_true rfl, Nat.le_of_ble_eq_true rfl⟩) hP hD hS [0, 1] rfl rfl rfl rfl (fun H locs hP hD hS => ?_)
        refine lv_iinc (v := i + 1) (lv' := [(4, .int (i + 1)), (0, .ref h0), (1, .ref h1), (2, .int first), (3, .int behind)]) hx hb dX0_copy_21 hl (k := 0) rfl rfl (by decide) rfl (fun ls hl => ?_)
        refine lv_goto (tgt := 3) hx hb dX0_copy_24 (by decide) ?_
        exact ih (i + 1) (ca_set N x i (ca_at M g i)) _ _ ls (by rw [loopE_go c1 rfl] at hi; exact hi) (k_meas c1 hm) hP hD hS (lv_sub hl [0, 1, 2, 3, 4] rfl)
  exact loop3 _ first f _ _ ls rfl (Nat.lt_succ_self _) hP hD hS (lv_sub hl [0, 1, 2, 3, 4] rfl)
set_option maxHeartbeats 4000000 in
set_option maxRecDepth 100000 in
theorem m_X0_isZeroFrom (l : Launch) (dC : Nat → ClassId) (dI : Nat → Nat → Nat) (cI cJ : ClassId) (h0 : Nat) (a0 : Nat) (N : Nat) (f : Nat → Int32) (first : Int32) (hN : N < 2 ^ 31) : cP l yX0_isZeroFrom wsX0_isZeroFrom ({ frames := 1, cells := 0, slots := 0, locals := 21 }) dC dI cI cJ [(h0, .inr (1, [.ref a0])), (a0, .inl (cI, N, .inl f))] [.ref h0, .int first] (ca_isZero N f first) := by
  refine Met.ofW (cc := cX0_isZeroFrom) (maxL := 3) (ret := (some .boolean)) (by decide) rfl ?_
  intro p e s m args below meth c s₁ B hml hv
  obtain ⟨rfl, hP, hK⟩ := hv
  have hx := B.exec
  have hb := B.bytes
  have hr := B.returns
  have hts := atoms_spec (ws := wsX0_isZeroFrom) B.pre
  have hown : s.vm.findClass RX0 = some m.cls := findClass_of_methodNamed B.named
  have hlocks := B.notSynchronized
  have inX0 : ∀ w ∈ wsX00, w ∈ wsX0_isZeroFrom := fun w h => (List.mem_cons_of_mem _ (List.mem_append_right _ h))
  have fl15 := hts (.fieldLink RX0 15 "StockLog$Cells" "cells" "[I") (by decide +kernel)
  have hl := lv_entry ([.ref h0, .int first]) (n := 3) (Nat.le_of_ble_eq_true rfl)
  rw [lg_entry_eq]
  generalize (lg_sl ([.ref h0, .int first]) ++ List.replicate (3 - (lg_sl ([.ref h0, .int first])).length) Slot.unset).toArray = ls at hl ⊢
  have hl : lv_has ls 3 [(0, .ref h0), (1, .int first)] := hl
  refine lv_iload_n hx hb dX0_isZeroFrom_0 rfl (lv_at hl 1 rfl) ?_
  refine lv_istore_n (lv' := [(2, .int first), (0, .ref h0), (1, .int first)]) hx hb dX0_isZeroFrom_1 rfl hl (by decide) rfl (fun ls hl => ?_)
  have loop2 : ∀ (n : Nat) (i : Int32) (ls : Array Slot), (loopE (nI N) (fun i (_ : Unit) => if ca_at N f i = 0 then (.inl () : Unit ⊕ Int32) else .inr 0) (fun _ => 1) i () = ca_isZero N f first) → ((nI N).toInt - i.toInt).toNat < n → lv_has ls 3 [(2, .int i), (0, .ref h0), (1, .int first)] → W p l e (headSpec wsX0_isZeroFrom ({ frames := 1, cells := 0, slots := 0, locals := 21 })).room s m ([.ref h0, .int first] : List Value).toArray below meth c s.heap [] 0 0 (MQ below (vp_Si (fun x => x = ca_isZero N f first)) ([.ref h0, .int first] : List Value).toArray s 0 0 (fun _ => False)) (F0 m 2 ls []) := by
    intro n
    induction n with
    | zero => intro i ls hi hm; exact absurd hm (Nat.not_lt_zero _)
    | succ n ih =>
      intro i ls hi hm hl
      refine lv_iload_n hx hb dX0_isZeroFrom_2 rfl (lv_at hl 0 rfl) ?_
      refine lv_aload_n hx hb dX0_isZeroFrom_3 rfl (lv_at hl 1 rfl) ?_
      refine k_get (ci := 1) (T := TX0) (N := 1) (C := RX0) hx hb hts inX0 hown hK hP 0 rfl rfl 0 (by decide) fl15 rfl rfl dX0_isZeroFrom_4 ?_
      refine k_alen hx hb hK hP 1 rfl dX0_isZeroFrom_7 ?_
      refine lv_icmp_ge (tgt := 27) hx hb dX0_isZeroFrom_8 (by decide) (fun c1 => ?_) (fun c1 => ?_)
      · refine lv_iconst (v := 1) hx hb dX0_isZeroFrom_27 (by decide) ?_
        exact k_zretP (ret := none) hx hb hr hlocks (by rw [← hi, loopE_exit c1]) (Or.inr rfl) rfl dX0_isZeroFrom_28
      · refine lv_aload_n hx hb dX0_isZeroFrom_11 rfl (lv_at hl 1 rfl) ?_
        refine lv_iload_n hx hb dX0_isZeroFrom_12 rfl (lv_at hl 0 rfl) ?_
        refine k_afP (va_runV (rest := []) ⟨hx, hb, hml, hown, hts⟩ (m_X0_at l dC dI cI cJ h0 a0 N f i (by first | assumption | decide)) (cwV 1 hts gX0_isZeroFrom_X0_at rfl rfl rfl hdv_X0_at ⟨Nat.le_of_ble_eq_true rfl, Nat.le_of_ble_eq_true rfl⟩) (k_preVP hK hP [0, 1] rfl 0 rfl rfl) rfl rfl hl.1 rfl (lv_room (Nat.le_of_ble_eq_true rfl)) dX0_isZeroFrom_13 ⟨Nat.le_of_ble_eq_true rfl, Nat.le_of_ble_eq_true rfl⟩) ?_
        refine lv_if_eq (tgt := 21) hx hb dX0_isZeroFrom_16 (by decide) (fun c2 => ?_) (fun c2 => ?_)
        · refine lv_iinc (v := i + 1) (lv' := [(2, .int (i + 1)), (0, .ref h0), (1, .int first)]) hx hb dX0_isZeroFrom_21 hl (k := 0) rfl rfl (by decide) rfl (fun ls hl => ?_)
          refine lv_goto (tgt := 2) hx hb dX0_isZeroFrom_24 (by decide) ?_
          exact ih (i + 1) ls (by rw [loopE_go c1 (if_pos c2)] at hi; exact hi) (k_meas c1 hm) (lv_sub hl [0, 1, 2] rfl)
        · refine lv_iconst (v := 0) hx hb dX0_isZeroFrom_19 (by decide) ?_
          exact k_zretP (ret := none) hx hb hr hlocks (by rw [← hi, loopE_ret c1 (if_neg c2)]) (Or.inl rfl) rfl dX0_isZeroFrom_20
  exact loop2 _ first ls rfl (Nat.lt_succ_self _) (lv_sub hl [0, 1, 2] rfl)
set_option maxHeartbeats 4000000 in
set_option maxRecDepth 100000 in
theorem m_X0_numberAt (l : Launch) (dC : Nat → ClassId) (dI : Nat → Nat → Nat) (cI cJ : ClassId) (h0 : Nat) (a0 : Nat) (N : Nat) (f : Nat → Int32) (place : Int32) (bytes : Int32) (hN : N < 2 ^ 31) : cP l yX0_numberAt wsX0_numberAt ({ frames := 1, cells := 0, slots := 0, locals := 21 }) dC dI cI cJ [(h0, .inr (1, [.ref a0])), (a0, .inl (cI, N, .inl f))] [.ref h0, .int place, .int bytes] (ca_num N f place bytes) := by
  refine Met.ofW (cc := cX0_numberAt) (maxL := 5) (ret := (some .int)) (by decide) rfl ?_
  intro p e s m args below meth c s₁ B hml hv
  obtain ⟨rfl, hP, hK⟩ := hv
  have hx := B.exec
  have hb := B.bytes
  have hr := B.returns
  have hts := atoms_spec (ws := wsX0_numberAt) B.pre
  have hown : s.vm.findClass RX0 = some m.cls := findClass_of_methodNamed B.named
  have hlocks := B.notSynchronized
  have hl := lv_entry ([.ref h0, .int place, .int bytes]) (n := 5) (Nat.le_of_ble_eq_true rfl)
  rw [lg_entry_eq]
  generalize (lg_sl ([.ref h0, .int place, .int bytes]) ++ List.replicate (5 - (lg_sl ([.ref h0, .int place, .int bytes])).length) Slot.unset).toArray = ls at hl ⊢
  have hl : lv_has ls 5 [(0, .ref h0), (1, .int place), (2, .int bytes)] := hl
  refine lv_iconst (v := 0) hx hb dX0_numberAt_0 (by decide) ?_
  refine lv_istore_n (lv' := [(3, .int 0), (0, .ref h0), (1, .int place), (2, .int bytes)]) hx hb dX0_numberAt_1 rfl hl (by decide) rfl (fun ls hl => ?_)
  refine lv_iconst (v := 0) hx hb dX0_numberAt_2 (by decide) ?_
  refine lv_istore (lv' := [(4, .int 0), (3, .int 0), (0, .ref h0), (1, .int place), (2, .int bytes)]) hx hb dX0_numberAt_3 hl (by decide) rfl (fun ls hl => ?_)
  have loop5 : ∀ (n : Nat) (i : Int32) (x : Int32) (ls : Array Slot), (loopE bytes (fun i (x : Int32) => (.inl ((x <<< ((8 : Int32) &&& 31)) ||| (ca_at N f (place + i))) : Int32 ⊕ Int32)) id i x = ca_num N f place bytes) → (bytes.toInt - i.toInt).toNat < n → lv_has ls 5 [(4, .int i), (3, .int x), (0, .ref h0), (1, .int place), (2, .int bytes)] → W p l e (headSpec wsX0_numberAt ({ frames := 1, cells := 0, slots := 0, locals := 21 })).room s m ([.ref h0, .int place, .int bytes] : List Value).toArray below meth c s.heap [] 0 0 (MQ below (vp_Si (fun x => x = ca_num N f place bytes)) ([.ref h0, .int place, .int bytes] : List Value).toArray s 0 0 (fun _ => False)) (F0 m 5 ls []) := by
    intro n
    induction n with
    | zero => intro i x ls hi hm; exact absurd hm (Nat.not_lt_zero _)
    | succ n ih =>
      intro i x ls hi hm hl
      refine lv_iload hx hb dX0_numberAt_5 (lv_at hl 0 rfl) ?_
      refine lv_iload_n hx hb dX0_numberAt_7 rfl (lv_at hl 4 rfl) ?_
      refine lv_icmp_ge (tgt := 31) hx hb dX0_numberAt_8 (by decide) (fun c1 => ?_) (fun c1 => ?_)
      · refine lv_iload_n hx hb dX0_numberAt_31 rfl (lv_at hl 1 rfl) ?_
        exact k_iretP (ret := none) hx hb hr hlocks (by rw [← hi, loopE_exit c1]; rfl) rfl dX0_numberAt_32
      · refine lv_iload_n hx hb dX0_numberAt_11 rfl (lv_at hl 1 rfl) ?_
        refine lv_bipush (v := 8) hx hb dX0_numberAt_12 (by decide) ?_
        refine lv_ishl hx hb dX0_numberAt_14 ?_
        refine lv_aload_n hx hb dX0_numberAt_15 rfl (lv_at hl 2 rfl) ?_
        refine lv_iload_n hx hb dX0_numberAt_16 rfl (lv_at hl 3 rfl) ?_
        refine lv_iload hx hb dX0_numberAt_17 (lv_at hl 0 rfl) ?_
        refine lv_iadd hx hb dX0_numberAt_19 ?_
        refine k_afP (va_runV (rest := [.int (x <<< (8 &&& 31))]) ⟨hx, hb, hml, hown, hts⟩ (m_X0_at l dC dI cI cJ h0 a0 N f (place + i) (by first | assumption | decide)) (cwV 1 hts gX0_numberAt_X0_at rfl rfl rfl hdv_X0_at ⟨Nat.le_of_ble_eq_true rfl, Nat.le_of_ble_eq_true rfl⟩) (k_preVP hK hP [0, 1] rfl 0 rfl rfl) rfl rfl hl.1 rfl (lv_room (Nat.le_of_ble_eq_true rfl)) dX0_numberAt_20 ⟨Nat.le_of_ble_eq_true rfl, Nat.le_of_ble_eq_true rfl⟩) ?_
        refine lv_ior hx hb dX0_numberAt_23 ?_
        refine lv_topi (fun v24 ev24 => ?_)
        refine lv_istore_n (lv' := [(3, .int v24), (4, .int i), (0, .ref h0), (1, .int place), (2, .int bytes)]) hx hb dX0_numberAt_24 rfl hl (by decide) rfl (fun ls hl => ?_)
        refine lv_iinc (v := i + 1) (lv' := [(4, .int (i + 1)), (3, .int v24), (0, .ref h0), (1, .int place), (2, .int bytes)]) hx hb dX0_numberAt_25 hl (k := 1) rfl rfl (by decide) rfl (fun ls hl => ?_)
        refine lv_goto (tgt := 5) hx hb dX0_numberAt_28 (by decide) ?_
        exact ih (i + 1) v24 ls (by rw [loopE_go c1 rfl] at hi; rw [ev24]; exact hi) (k_meas c1 hm) (lv_sub hl [0, 1, 2, 3, 4] rfl)
  exact loop5 _ 0 0 ls rfl (Nat.lt_succ_self _) (lv_sub hl [0, 1, 2, 3, 4] rfl)
set_option maxHeartbeats 4000000 in
set_option maxRecDepth 100000 in
theorem m_X0_setNumber (l : Launch) (dC : Nat → ClassId) (dI : Nat → Nat → Nat) (cI cJ : ClassId) (h0 : Nat) (a0 : Nat) (N : Nat) (f : Nat → Int32) (place : Int32) (bytes : Int32) (number : Int32) (hN : N < 2 ^ 31) : cW l yX0_setNumber wsX0_setNumber ({ frames := 1, cells := 0, slots := 0, locals := 22 }) dC dI cI cJ [(h0, .inr (1, [.ref a0])), (a0, .inl (cI, N, .inl f))] [(h0, .inr (1, [.ref a0])), (a0, .inl (cI, N, .inl (ca_setNum N f place bytes number)))] [h0, a0] [.ref h0, .int place, .int bytes, .int number] none := by
  refine Met.ofW (cc := cX0_setNumber) (maxL := 6) (ret := none) (by decide) rfl ?_
  intro p e s m args below meth c s₁ B hml hv
  obtain ⟨rfl, hP, hK, hD0⟩ := hv
  have hx := B.exec
  have hb := B.bytes
  have hr := B.returns
  have hts := atoms_spec (ws := wsX0_setNumber) B.pre
  have hown : s.vm.findClass RX0 = some m.cls := findClass_of_methodNamed B.named
  have hlocks := B.notSynchronized
  have hD : va_D (mA [h0, a0]) [(h0, .inr (1, [.ref a0])), (a0, .inl (cI, N, .inl f))] := k_Dw hD0 rfl
  have hS : va_S (mA [h0, a0]) s.heap s.heap [] := va_S.rf
  have hl := lv_entry ([.ref h0, .int place, .int bytes, .int number]) (n := 6) (Nat.le_of_ble_eq_true rfl)
  rw [lg_entry_eq]
  generalize (lg_sl ([.ref h0, .int place, .int bytes, .int number]) ++ List.replicate (6 - (lg_sl ([.ref h0, .int place, .int bytes, .int number])).length) Slot.unset).toArray = ls at hl ⊢
  have hl : lv_has ls 6 [(0, .ref h0), (1, .int place), (2, .int bytes), (3, .int number)] := hl
  refine lv_iconst (v := 0) hx hb dX0_setNumber_0 (by decide) ?_
  refine lv_istore (lv' := [(4, .int 0), (0, .ref h0), (1, .int place), (2, .int bytes), (3, .int number)]) hx hb dX0_setNumber_1 hl (by decide) rfl (fun ls hl => ?_)
  have loop3 : ∀ (n : Nat) (i : Int32) (x : Nat → Int32) (H : Heap) (locs : List Loc) (ls : Array Slot), (loopE bytes (fun i (x : Nat → Int32) => (.inl (ca_set N x (place + i) ((ushr number (8 * ((bytes - 1) - i))) &&& 255)) : (Nat → Int32) ⊕ (Nat → Int32))) id i x = ca_setNum N f place bytes number) → (bytes.toInt - i.toInt).toNat < n → va_P (dC, dI) vwCl [(h0, .inr (1, [.ref a0])), (a0, .inl (cI, N, .inl x))] H → va_D (mA [h0, a0]) [(h0, .inr (1, [.ref a0])), (a0, .inl (cI, N, .inl x))] → va_S (mA [h0, a0]) s.heap H locs → lv_has ls 6 [(4, .int i), (0, .ref h0), (1, .int place), (2, .int bytes), (3, .int number)] → W p l e (headSpec wsX0_setNumber ({ frames := 1, cells := 0, slots := 0, locals := 22 })).room s m ([.ref h0, .int place, .int bytes, .int number] : List Value).toArray below meth c H locs 0 0 (MQ below (mQ dC dI [(h0, .inr (1, [.ref a0])), (a0, .inl (cI, N, .inl (ca_setNum N f place bytes number)))] [h0, a0] none) ([.ref h0, .int place, .int bytes, .int number] : List Value).toArray s 0 0 (mA [h0, a0])) (F0 m 3 ls []) := by
    intro n
    induction n with
    | zero => intro i x H locs ls hi hm; exact absurd hm (Nat.not_lt_zero _)
    | succ n ih =>
      intro i x H locs ls hi hm hP hD hS hl
      refine lv_iload hx hb dX0_setNumber_3 (lv_at hl 0 rfl) ?_
      refine lv_iload_n hx hb dX0_setNumber_5 rfl (lv_at hl 3 rfl) ?_
      refine lv_icmp_ge (tgt := 42) hx hb dX0_setNumber_6 (by decide) (fun c1 => ?_) (fun c1 => ?_)
      · exact k_vretW hx hb hr hlocks hP hS (by rw [← hi, loopE_exit c1]; rfl) dX0_setNumber_42
      · refine lv_bipush (v := 8) hx hb dX0_setNumber_9 (by decide) ?_
        refine lv_iload_n hx hb dX0_setNumber_11 rfl (lv_at hl 3 rfl) ?_
        refine lv_iconst (v := 1) hx hb dX0_setNumber_12 (by decide) ?_
        refine lv_isub hx hb dX0_setNumber_13 ?_
        refine lv_iload hx hb dX0_setNumber_14 (lv_at hl 0 rfl) ?_
        refine lv_isub hx hb dX0_setNumber_16 ?_
        refine lv_imul hx hb dX0_setNumber_17 ?_
        refine lv_istore (lv' := [(5, .int (8 * ((bytes - 1) - i))), (4, .int i), (0, .ref h0), (1, .int place), (2, .int bytes), (3, .int number)]) hx hb dX0_setNumber_18 hl (by decide) rfl (fun ls hl => ?_)
        refine lv_aload_n hx hb dX0_setNumber_20 rfl (lv_at hl 2 rfl) ?_
        refine lv_iload_n hx hb dX0_setNumber_21 rfl (lv_at hl 3 rfl) ?_
        refine lv_iload hx hb dX0_setNumber_22 (lv_at hl 1 rfl) ?_
        refine lv_iadd hx hb dX0_setNumber_24 ?_
        refine lv_iload_n hx hb dX0_setNumber_25 rfl (lv_at hl 5 rfl) ?_
        refine lv_iload hx hb dX0_setNumber_26 (lv_at hl 0 rfl) ?_
        refine lv_iushr (v := ushr number (8 * ((bytes - 1) - i))) hx hb dX0_setNumber_28 rfl ?_
        refine lv_sipush (v := 255) hx hb dX0_setNumber_29 (by decide) ?_
        refine lv_iand hx hb dX0_setNumber_32 ?_
        refine k_afW (wc := [(h0, .inr (1, [.ref a0])), (a0, .inl (cI, N, .inl x))]) (ws' := [(h0, .inr (1, [.ref a0])), (a0, .inl (cI, N, .inl (ca_set N x (place + i) ((ushr number (8 * ((bytes - 1) - i))) &&& 255))))]) (va_runV (rest := []) ⟨hx, hb, hml, hown, hts⟩ (m_X0_set l dC dI cI cJ h0 a0 N x (place + i) ((ushr number (8 * ((bytes - 1) - i))) &&& 255) (by first | assumption | decide)) (cwV 2 hts gX0_setNumber_X0_set rfl rfl rfl hdv_X0_set ⟨Nat.le_of_ble_eq_true rfl, Nat.le_of_ble_eq_true rfl⟩) (k_preVW hK hP hD [0, 1] rfl rfl 0 rfl rfl) rfl rfl hl.1 rfl (lv_room (Nat.le_of_ble_eq_true rfl)) dX0_setNumber_33 ⟨Nat.le_of_ble_eq_true rfl, Nat.le_of_ble_eq_true rfl⟩) hP hD hS [0, 1] rfl rfl rfl rfl (fun H locs hP hD hS => ?_)
        refine lv_iinc (v := i + 1) (lv' := [(4, .int (i + 1)), (5, .int (8 * ((bytes - 1) - i))), (0, .ref h0), (1, .int place), (2, .int bytes), (3, .int number)]) hx hb dX0_setNumber_36 hl (k := 1) rfl rfl (by decide) rfl (fun ls hl => ?_)
        refine lv_goto (tgt := 3) hx hb dX0_setNumber_39 (by decide) ?_
        exact ih (i + 1) (ca_set N x (place + i) ((ushr number (8 * ((bytes - 1) - i))) &&& 255)) _ _ ls (by rw [loopE_go c1 rfl] at hi; exact hi) (k_meas c1 hm) hP hD hS (lv_sub hl [0, 2, 3, 4, 5] rfl)
  exact loop3 _ 0 f _ _ ls rfl (Nat.lt_succ_self _) hP hD hS (lv_sub hl [0, 1, 2, 3, 4] rfl)
end
section
/-! ROWS: what each method of Rows answers and leaves -/
theorem k_le1 {b i : Int32} (hb : b < 2147483647) : b < i ↔ b + 1 ≤ i := by
  have h1 : b.toInt < 2147483647 := Int32.lt_iff_toInt_lt.mp hb
  have h3 := b.le_toInt
  have h4 : (b + 1).toInt = b.toInt + 1 := by
    rw [Int32.toInt_add]
    have : (1 : Int32).toInt = 1 := rfl
    rw [this]
    apply Int.bmod_eq_of_le <;> omega
  rw [Int32.lt_iff_toInt_lt, Int32.le_iff_toInt_le, h4]
  omega
theorem k_le1n {b i : Int32} (hb : b < 2147483647) (h : ¬ b < i) : ¬ b + 1 ≤ i := fun q => h ((k_le1 hb).mpr q)
def sl_isKind (k : Int32) : Int32 := if k < 1 then 0 else if 5 < k then 0 else 1
def sl_mix (sum b : Int32) : Int32 := (((sum ^^^ b) <<< ((7 : Int32) &&& 31)) ||| (ushr (sum ^^^ b) 25)) * (-2048144777)
def sl_sum (N : Nat) (f : Nat → Int32) (start length : Int32) : Int32 := loopE ((start + 5) + length) (fun i (x : Int32) => (.inl (sl_mix x (ca_at N f i)) : Int32 ⊕ Int32)) id (start + 1) 1
def rw_kindOf (N K : Nat) (fi fs : Nat → Int32) (number : Int32) : Int32 := ca_at N fi ((ca_at K fs number) + 1)
def rw_lengthOf (N K : Nat) (fi fs : Nat → Int32) (number : Int32) : Int32 := ca_at N fi ((ca_at K fs number) + 4)
def rw_byteAt (N K : Nat) (fi fs : Nat → Int32) (number i : Int32) : Int32 := ca_at N fi (((ca_at K fs number) + 5) + i)
def rw_sumOfBytes (N K : Nat) (fi fs : Nat → Int32) (number : Int32) : Int32 := loopE (rw_lengthOf N K fi fs number) (fun i (x : Int32) => (.inl (x + (rw_byteAt N K fi fs number i)) : Int32 ⊕ Int32)) id 0 0
def rw_nstep (N K : Nat) (fi fs : Nat → Int32) (kind i number before : Int32) : Int32 ⊕ Int32 := if rw_kindOf N K fi fs number = kind then (if before = i then .inr number else .inl (before + 1)) else .inl before
def rw_numberOf (N K : Nat) (fi fs : Nat → Int32) (last kind i : Int32) : Int32 := loopE (last + 1) (fun number (before : Int32) => rw_nstep N K fi fs kind i number before) (fun _ => -1) 1 0
def rw_img (N : Nat) (fi : Nat → Int32) (used last kind length : Int32) : Nat → Int32 := ca_set N (ca_setNum N (ca_set N (ca_set N fi used 90) (used + 1) kind) (used + 2) 2 (last + 1)) (used + 4) length
def rw_body (N : Nat) (f : Nat → Int32) (M : Nat) (g : Nat → Int32) (used length : Int32) : Nat → Int32 := loopE length (fun i (x : Nat → Int32) => (.inl (ca_set N x ((used + 5) + i) (ca_at M g i)) : (Nat → Int32) ⊕ (Nat → Int32))) id 0 f
def rw_tail (N : Nat) (f : Nat → Int32) (used length : Int32) : Nat → Int32 := ca_setNum N f ((used + 5) + length) 4 (sl_sum N f used length)
def rw_image (N : Nat) (fi : Nat → Int32) (used last kind length : Int32) (M : Nat) (g : Nat → Int32) : Nat → Int32 := rw_tail N (rw_body N (rw_img N fi used last kind length) M g used length) used length
def rw_inc (fk : Nat → Int32) (kind : Int32) : Nat → Int32 := ca_set 6 fk kind ((ca_at 6 fk kind) + 1)
def rw_dec (fk : Nat → Int32) (kind : Int32) : Nat → Int32 := ca_set 6 fk kind ((ca_at 6 fk kind) - 1)
/-- enlistNext: starts, ofKind, used -/
def rw_enS (K : Nat) (fs : Nat → Int32) (last used : Int32) : Nat → Int32 := ca_set K fs (last + 1) used
def rw_enK (N K : Nat) (fi fs fk : Nat → Int32) (last used : Int32) : Nat → Int32 := rw_inc fk (rw_kindOf N K fi (rw_enS K fs last used) (last + 1))
def rw_enU (N K : Nat) (fi fs : Nat → Int32) (last used : Int32) : Int32 := used + (9 + (rw_lengthOf N K fi (rw_enS K fs last used) (last + 1)))
def rw_drop (N K : Nat) (fi fs fk : Nat → Int32) (last lod : Int32) : Nat → Int32 := loopE (last + 1) (fun number (x : Nat → Int32) => (.inl (rw_dec x (rw_kindOf N K fi fs number)) : (Nat → Int32) ⊕ (Nat → Int32))) id (lod + 1) fk
def rw_isState (M : Nat) (g fk : Nat → Int32) (place length : Int32) : Int32 := if length = 8 then loopE 5 (fun kind (_ : Unit) => if ca_num M g (place + (2 * (kind - 1))) 2 = ca_at 6 fk kind then (.inl () : Unit ⊕ Int32) else .inr 0) (fun _ => 1) 1 () else 0
def rw_fill (ft fk : Nat → Int32) : Nat → Int32 := loopE 5 (fun kind (x : Nat → Int32) => (.inl (ca_setNum 8 x (2 * (kind - 1)) 2 (ca_at 6 fk kind)) : (Nat → Int32) ⊕ (Nat → Int32))) id 1 ft
def rw_judge (M : Nat) (g fk : Nat → Int32) (last used : Int32) : Int32 :=
  if ca_isZero M g used = 0 then
    if ca_at M g used = 90 then
      if (used + 4) < (nI M) then
        if (sl_isKind (ca_at M g (used + 1))) = 0 then 2 else
          if (ca_num M g (used + 2) 2) = (last + 1) then
            if 20 < (ca_at M g (used + 4)) then 4 else
              if ((used + 9) + (ca_at M g (used + 4))) ≤ (nI M) then
                if (ca_num M g ((used + 5) + (ca_at M g (used + 4))) 4) = (sl_sum M g used (ca_at M g (used + 4))) then
                  if (ca_at M g (used + 1)) = 5 then
                    if (rw_isState M g fk (used + 5) (ca_at M g (used + 4))) = 0 then 6 else (-1)
                  else (-1)
                else 5
              else 4
          else 3
      else 4
    else 1
  else 0
abbrev RS : Type := (Nat → Int32) × (Nat → Int32) × (Nat → Int32) × Int32 × Int32
def rw_cpI (N M : Nat) (fi g : Nat → Int32) (used : Int32) : Nat → Int32 := ca_copy N fi M g used ((used + 9) + (ca_at M g (used + 4)))
def rw_take (N K M : Nat) (g : Nat → Int32) (x : RS) : RS := (rw_cpI N M x.1 g x.2.2.2.2, rw_enS K x.2.1 x.2.2.2.1 x.2.2.2.2, rw_enK N K (rw_cpI N M x.1 g x.2.2.2.2) x.2.1 x.2.2.1 x.2.2.2.1 x.2.2.2.2, x.2.2.2.1 + 1, rw_enU N K (rw_cpI N M x.1 g x.2.2.2.2) x.2.1 x.2.2.2.1 x.2.2.2.2)
def rw_rstep (N K M : Nat) (g : Nat → Int32) (y : RS × Int32) : (RS × Int32) ⊕ (RS × Int32) := if y.2 = (-1) then .inl (rw_take N K M g y.1, rw_judge M g (rw_take N K M g y.1).2.2.1 (rw_take N K M g y.1).2.2.2.1 (rw_take N K M g y.1).2.2.2.2) else .inr y
def rw_read (N K M : Nat) (g : Nat → Int32) (x : RS) : RS × Int32 := loopE (nI M) (fun _ (y : RS × Int32) => rw_rstep N K M g y) id 0 (x, rw_judge M g x.2.2.1 x.2.2.2.1 x.2.2.2.2)
theorem hdn_X1_byteAt : yX1_byteAt.cls ≠ "java/lang/invoke/MethodHandle" ∧ yX1_byteAt.cls ≠ "java/lang/invoke/VarHandle" ∧ (parseMethodDescriptor yX1_byteAt.desc).map (fun d => d.parameters.length) = some 2 := by decide +kernel
theorem hdv_X1_byteAt : yX1_byteAt.cls = RX1 ∧ yX1_byteAt.cls ≠ "java/lang/invoke/MethodHandle" ∧ yX1_byteAt.cls ≠ "java/lang/invoke/VarHandle" ∧ (parseMethodDescriptor yX1_byteAt.desc).map (fun d => d.parameters.length) = some 2 := ⟨rfl, hdn_X1_byteAt⟩
theorem hdn_X1_bytesInMemory : yX1_bytesInMemory.cls ≠ "java/lang/invoke/MethodHandle" ∧ yX1_bytesInMemory.cls ≠ "java/lang/invoke/VarHandle" ∧ (parseMethodDescriptor yX1_bytesInMemory.desc).map (fun d => d.parameters.length) = some 0 := by decide +kernel
theorem hdv_X1_bytesInMemory : yX1_bytesInMemory.cls = RX1 ∧ yX1_bytesInMemory.cls ≠ "java/lang/invoke/MethodHandle" ∧ yX1_bytesInMemory.cls ≠ "java/lang/invoke/VarHandle" ∧ (parseMethodDescriptor yX1_bytesInMemory.desc).map (fun d => d.parameters.length) = some 0 := ⟨rfl, hdn_X1_bytesInMemory⟩
theorem hdn_X1_clear : yX1_clear.cls ≠ "java/lang/invoke/MethodHandle" ∧ yX1_clear.cls ≠ "java/lang/invoke/VarHandle" ∧ (parseMethodDescriptor yX1_clear.desc).map (fun d => d.parameters.length) = some 0 := by decide +kernel
theorem hdv_X1_clear : yX1_clear.cls = RX1 ∧ yX1_clear.cls ≠ "java/lang/invoke/MethodHandle" ∧ yX1_clear.cls ≠ "java/lang/invoke/VarHandle" ∧ (parseMethodDescriptor yX1_clear.desc).map (fun d => d.parameters.length) = some 0 := ⟨rfl, hdn_X1_clear⟩
theorem hdn_X1_dropMemory : yX1_dropMemory.cls ≠ "java/lang/invoke/MethodHandle" ∧ yX1_dropMemory.cls ≠ "java/lang/invoke/VarHandle" ∧ (parseMethodDescriptor yX1_dropMemory.desc).map (fun d => d.parameters.length) = some 0 := by decide +kernel
theorem hdv_X1_dropMemory : yX1_dropMemory.cls = RX1 ∧ yX1_dropMemory.cls ≠ "java/lang/invoke/MethodHandle" ∧ yX1_dropMemory.cls ≠ "java/lang/invoke/VarHandle" ∧ (parseMethodDescriptor yX1_dropMemory.desc).map (fun d => d.parameters.length) = some 0 := ⟨rfl, hdn_X1_dropMemory⟩
theorem hdn_X1_enlistNext : yX1_enlistNext.cls ≠ "java/lang/invoke/MethodHandle" ∧ yX1_enlistNext.cls ≠ "java/lang/invoke/VarHandle" ∧ (parseMethodDescriptor yX1_enlistNext.desc).map (fun d => d.parameters.length) = some 0 := by decide +kernel
theorem hdv_X1_enlistNext : yX1_enlistNext.cls = RX1 ∧ yX1_enlistNext.cls ≠ "java/lang/invoke/MethodHandle" ∧ yX1_enlistNext.cls ≠ "java/lang/invoke/VarHandle" ∧ (parseMethodDescriptor yX1_enlistNext.desc).map (fun d => d.parameters.length) = some 0 := ⟨rfl, hdn_X1_enlistNext⟩
theorem hdn_X1_fillState : yX1_fillState.cls ≠ "java/lang/invoke/MethodHandle" ∧ yX1_fillState.cls ≠ "java/lang/invoke/VarHandle" ∧ (parseMethodDescriptor yX1_fillState.desc).map (fun d => d.parameters.length) = some 0 := by decide +kernel
theorem hdv_X1_fillState : yX1_fillState.cls = RX1 ∧ yX1_fillState.cls ≠ "java/lang/invoke/MethodHandle" ∧ yX1_fillState.cls ≠ "java/lang/invoke/VarHandle" ∧ (parseMethodDescriptor yX1_fillState.desc).map (fun d => d.parameters.length) = some 0 := ⟨rfl, hdn_X1_fillState⟩
theorem hdn_X1_has : yX1_has.cls ≠ "java/lang/invoke/MethodHandle" ∧ yX1_has.cls ≠ "java/lang/invoke/VarHandle" ∧ (parseMethodDescriptor yX1_has.desc).map (fun d => d.parameters.length) = some 1 := by decide +kernel
theorem hdv_X1_has : yX1_has.cls = RX1 ∧ yX1_has.cls ≠ "java/lang/invoke/MethodHandle" ∧ yX1_has.cls ≠ "java/lang/invoke/VarHandle" ∧ (parseMethodDescriptor yX1_has.desc).map (fun d => d.parameters.length) = some 1 := ⟨rfl, hdn_X1_has⟩
theorem hdn_X1_isState : yX1_isState.cls ≠ "java/lang/invoke/MethodHandle" ∧ yX1_isState.cls ≠ "java/lang/invoke/VarHandle" ∧ (parseMethodDescriptor yX1_isState.desc).map (fun d => d.parameters.length) = some 3 := by decide +kernel
theorem hdv_X1_isState : yX1_isState.cls = RX1 ∧ yX1_isState.cls ≠ "java/lang/invoke/MethodHandle" ∧ yX1_isState.cls ≠ "java/lang/invoke/VarHandle" ∧ (parseMethodDescriptor yX1_isState.desc).map (fun d => d.parameters.length) = some 3 := ⟨rfl, hdn_X1_isState⟩
theorem hdn_X1_judgeNext : yX1_judgeNext.cls ≠ "java/lang/invoke/MethodHandle" ∧ yX1_judgeNext.cls ≠ "java/lang/invoke/VarHandle" ∧ (parseMethodDescriptor yX1_judgeNext.desc).map (fun d => d.parameters.length) = some 1 := by decide +kernel
theorem hdv_X1_judgeNext : yX1_judgeNext.cls = RX1 ∧ yX1_judgeNext.cls ≠ "java/lang/invoke/MethodHandle" ∧ yX1_judgeNext.cls ≠ "java/lang/invoke/VarHandle" ∧ (parseMethodDescriptor yX1_judgeNext.desc).map (fun d => d.parameters.length) = some 1 := ⟨rfl, hdn_X1_judgeNext⟩
theorem hdn_X1_kindOf : yX1_kindOf.cls ≠ "java/lang/invoke/MethodHandle" ∧ yX1_kindOf.cls ≠ "java/lang/invoke/VarHandle" ∧ (parseMethodDescriptor yX1_kindOf.desc).map (fun d => d.parameters.length) = some 1 := by decide +kernel
theorem hdv_X1_kindOf : yX1_kindOf.cls = RX1 ∧ yX1_kindOf.cls ≠ "java/lang/invoke/MethodHandle" ∧ yX1_kindOf.cls ≠ "java/lang/invoke/VarHandle" ∧ (parseMethodDescriptor yX1_kindOf.desc).map (fun d => d.parameters.length) = some 1 := ⟨rfl, hdn_X1_kindOf⟩
theorem hdn_X1_lengthOf : yX1_lengthOf.cls ≠ "java/lang/invoke/MethodHandle" ∧ yX1_lengthOf.cls ≠ "java/lang/invoke/VarHandle" ∧ (parseMethodDescriptor yX1_lengthOf.desc).map (fun d => d.parameters.length) = some 1 := by decide +kernel
theorem hdv_X1_lengthOf : yX1_lengthOf.cls = RX1 ∧ yX1_lengthOf.cls ≠ "java/lang/invoke/MethodHandle" ∧ yX1_lengthOf.cls ≠ "java/lang/invoke/VarHandle" ∧ (parseMethodDescriptor yX1_lengthOf.desc).map (fun d => d.parameters.length) = some 1 := ⟨rfl, hdn_X1_lengthOf⟩
theorem hdn_X1_markAllOnDisk : yX1_markAllOnDisk.cls ≠ "java/lang/invoke/MethodHandle" ∧ yX1_markAllOnDisk.cls ≠ "java/lang/invoke/VarHandle" ∧ (parseMethodDescriptor yX1_markAllOnDisk.desc).map (fun d => d.parameters.length) = some 0 := by decide +kernel
theorem hdv_X1_markAllOnDisk : yX1_markAllOnDisk.cls = RX1 ∧ yX1_markAllOnDisk.cls ≠ "java/lang/invoke/MethodHandle" ∧ yX1_markAllOnDisk.cls ≠ "java/lang/invoke/VarHandle" ∧ (parseMethodDescriptor yX1_markAllOnDisk.desc).map (fun d => d.parameters.length) = some 0 := ⟨rfl, hdn_X1_markAllOnDisk⟩
theorem hdn_X1_numberOf : yX1_numberOf.cls ≠ "java/lang/invoke/MethodHandle" ∧ yX1_numberOf.cls ≠ "java/lang/invoke/VarHandle" ∧ (parseMethodDescriptor yX1_numberOf.desc).map (fun d => d.parameters.length) = some 2 := by decide +kernel
theorem hdv_X1_numberOf : yX1_numberOf.cls = RX1 ∧ yX1_numberOf.cls ≠ "java/lang/invoke/MethodHandle" ∧ yX1_numberOf.cls ≠ "java/lang/invoke/VarHandle" ∧ (parseMethodDescriptor yX1_numberOf.desc).map (fun d => d.parameters.length) = some 2 := ⟨rfl, hdn_X1_numberOf⟩
theorem hdn_X1_read : yX1_read.cls ≠ "java/lang/invoke/MethodHandle" ∧ yX1_read.cls ≠ "java/lang/invoke/VarHandle" ∧ (parseMethodDescriptor yX1_read.desc).map (fun d => d.parameters.length) = some 1 := by decide +kernel
theorem hdv_X1_read : yX1_read.cls = RX1 ∧ yX1_read.cls ≠ "java/lang/invoke/MethodHandle" ∧ yX1_read.cls ≠ "java/lang/invoke/VarHandle" ∧ (parseMethodDescriptor yX1_read.desc).map (fun d => d.parameters.length) = some 1 := ⟨rfl, hdn_X1_read⟩
theorem hdn_X1_sumOfBytes : yX1_sumOfBytes.cls ≠ "java/lang/invoke/MethodHandle" ∧ yX1_sumOfBytes.cls ≠ "java/lang/invoke/VarHandle" ∧ (parseMethodDescriptor yX1_sumOfBytes.desc).map (fun d => d.parameters.length) = some 1 := by decide +kernel
theorem hdv_X1_sumOfBytes : yX1_sumOfBytes.cls = RX1 ∧ yX1_sumOfBytes.cls ≠ "java/lang/invoke/MethodHandle" ∧ yX1_sumOfBytes.cls ≠ "java/lang/invoke/VarHandle" ∧ (parseMethodDescriptor yX1_sumOfBytes.desc).map (fun d => d.parameters.length) = some 1 := ⟨rfl, hdn_X1_sumOfBytes⟩
theorem hdn_X1_write : yX1_write.cls ≠ "java/lang/invoke/MethodHandle" ∧ yX1_write.cls ≠ "java/lang/invoke/VarHandle" ∧ (parseMethodDescriptor yX1_write.desc).map (fun d => d.parameters.length) = some 3 := by decide +kernel
theorem hdv_X1_write : yX1_write.cls = RX1 ∧ yX1_write.cls ≠ "java/lang/invoke/MethodHandle" ∧ yX1_write.cls ≠ "java/lang/invoke/VarHandle" ∧ (parseMethodDescriptor yX1_write.desc).map (fun d => d.parameters.length) = some 3 := ⟨rfl, hdn_X1_write⟩
theorem hdn_X1_writeState : yX1_writeState.cls ≠ "java/lang/invoke/MethodHandle" ∧ yX1_writeState.cls ≠ "java/lang/invoke/VarHandle" ∧ (parseMethodDescriptor yX1_writeState.desc).map (fun d => d.parameters.length) = some 0 := by decide +kernel
theorem hdv_X1_writeState : yX1_writeState.cls = RX1 ∧ yX1_writeState.cls ≠ "java/lang/invoke/MethodHandle" ∧ yX1_writeState.cls ≠ "java/lang/invoke/VarHandle" ∧ (parseMethodDescriptor yX1_writeState.desc).map (fun d => d.parameters.length) = some 0 := ⟨rfl, hdn_X1_writeState⟩
theorem hdn_X2_isKind : yX2_isKind.cls ≠ "java/lang/invoke/MethodHandle" ∧ yX2_isKind.cls ≠ "java/lang/invoke/VarHandle" ∧ (parseMethodDescriptor yX2_isKind.desc).map (fun d => d.parameters.length) = some 1 := by decide +kernel
theorem hds_X2_isKind : yX2_isKind.cls = RX2 ∧ yX2_isKind.cls ≠ "java/lang/invoke/MethodHandle" ∧ yX2_isKind.cls ≠ "java/lang/invoke/VarHandle" ∧ (parseMethodDescriptor yX2_isKind.desc).map (fun d => d.parameters.length) = some 1 := ⟨rfl, hdn_X2_isKind⟩
theorem hdn_X2_sumOfRow : yX2_sumOfRow.cls ≠ "java/lang/invoke/MethodHandle" ∧ yX2_sumOfRow.cls ≠ "java/lang/invoke/VarHandle" ∧ (parseMethodDescriptor yX2_sumOfRow.desc).map (fun d => d.parameters.length) = some 3 := by decide +kernel
theorem hds_X2_sumOfRow : yX2_sumOfRow.cls = RX2 ∧ yX2_sumOfRow.cls ≠ "java/lang/invoke/MethodHandle" ∧ yX2_sumOfRow.cls ≠ "java/lang/invoke/VarHandle" ∧ (parseMethodDescriptor yX2_sumOfRow.desc).map (fun d => d.parameters.length) = some 3 := ⟨rfl, hdn_X2_sumOfRow⟩
set_option maxHeartbeats 4000000 in
set_option maxRecDepth 100000 in
theorem m_X2_isKind (l : Launch) (dC : Nat → ClassId) (dI : Nat → Nat → Nat) (cI cJ : ClassId) (k : Int32)  : cP l yX2_isKind wsX2_isKind ({ frames := 0, cells := 0, slots := 0, locals := 0 }) dC dI cI cJ [] [.int k] (sl_isKind k) := by
  refine Met.ofW (cc := cX2_isKind) (maxL := 1) (ret := (some .boolean)) (by decide) rfl ?_
  intro p e s m args below meth c s₁ B hml hv
  obtain ⟨rfl, hP, hK⟩ := hv
  have hx := B.exec
  have hb := B.bytes
  have hr := B.returns
  have hts := atoms_spec (ws := wsX2_isKind) B.pre
  have hown : s.vm.findClass RX2 = some m.cls := findClass_of_methodNamed B.named
  have hlocks := B.notSynchronized
  have hl := lv_entry ([.int k]) (n := 1) (Nat.le_of_ble_eq_true rfl)
  rw [lg_entry_eq]
  generalize (lg_sl ([.int k]) ++ List.replicate (1 - (lg_sl ([.int k])).length) Slot.unset).toArray = ls at hl ⊢
  have hl : lv_has ls 1 [(0, .int k)] := hl
  refine lv_iload_n hx hb dX2_isKind_0 rfl (lv_at hl 0 rfl) ?_
  refine lv_iconst (v := 1) hx hb dX2_isKind_1 (by decide) ?_
  refine lv_icmp_lt (tgt := 14) hx hb dX2_isKind_2 (by decide) (fun c1 => ?_) (fun c1 => ?_)
  · refine lv_iconst (v := 0) hx hb dX2_isKind_14 (by decide) ?_
    exact k_zretP (ret := none) hx hb hr hlocks (by simp only [sl_isKind, if_pos c1]) (Or.inl rfl) rfl dX2_isKind_15
  · refine lv_iload_n hx hb dX2_isKind_5 rfl (lv_at hl 0 rfl) ?_
    refine lv_iconst (v := 5) hx hb dX2_isKind_6 (by decide) ?_
    refine lv_icmp_gt (tgt := 14) hx hb dX2_isKind_7 (by decide) (fun c2 => ?_) (fun c2 => ?_)
    · refine lv_iconst (v := 0) hx hb dX2_isKind_14 (by decide) ?_
      exact k_zretP (ret := none) hx hb hr hlocks (by simp only [sl_isKind, if_neg c1, if_pos c2]) (Or.inl rfl) rfl dX2_isKind_15
    · refine lv_iconst (v := 1) hx hb dX2_isKind_10 (by decide) ?_
      refine lv_goto (tgt := 15) hx hb dX2_isKind_11 (by decide) ?_
      exact k_zretP (ret := none) hx hb hr hlocks (by simp only [sl_isKind, if_neg c1, if_neg c2]) (Or.inr rfl) rfl dX2_isKind_15
set_option maxHeartbeats 4000000 in
set_option maxRecDepth 100000 in
theorem m_X2_sumOfRow (l : Launch) (dC : Nat → ClassId) (dI : Nat → Nat → Nat) (cI cJ : ClassId) (h0 : Nat) (a0 : Nat) (N : Nat) (f : Nat → Int32) (start : Int32) (length : Int32) (hN : N < 2 ^ 31) : cP l yX2_sumOfRow wsX2_sumOfRow ({ frames := 1, cells := 0, slots := 0, locals := 21 }) dC dI cI cJ [(h0, .inr (1, [.ref a0])), (a0, .inl (cI, N, .inl f))] [.ref h0, .int start, .int length] (sl_sum N f start length) := by
  refine Met.ofW (cc := cX2_sumOfRow) (maxL := 7) (ret := (some .int)) (by decide) rfl ?_
  intro p e s m args below meth c s₁ B hml hv
  obtain ⟨rfl, hP, hK⟩ := hv
  have hx := B.exec
  have hb := B.bytes
  have hr := B.returns
  have hts := atoms_spec (ws := wsX2_sumOfRow) B.pre
  have hown : s.vm.findClass RX2 = some m.cls := findClass_of_methodNamed B.named
  have hlocks := B.notSynchronized
  have hl := lv_entry ([.ref h0, .int start, .int length]) (n := 7) (Nat.le_of_ble_eq_true rfl)
  rw [lg_entry_eq]
  generalize (lg_sl ([.ref h0, .int start, .int length]) ++ List.replicate (7 - (lg_sl ([.ref h0, .int start, .int length])).length) Slot.unset).toArray = ls at hl ⊢
  have hl : lv_has ls 7 [(0, .ref h0), (1, .int start), (2, .int length)] := hl
  refine lv_iconst (v := 1) hx hb dX2_sumOfRow_0 (by decide) ?_
  refine lv_istore_n (lv' := [(3, .int 1), (0, .ref h0), (1, .int start), (2, .int length)]) hx hb dX2_sumOfRow_1 rfl hl (by decide) rfl (fun ls hl => ?_)
  refine lv_iload_n hx hb dX2_sumOfRow_2 rfl (lv_at hl 2 rfl) ?_
  refine lv_iconst (v := 5) hx hb dX2_sumOfRow_3 (by decide) ?_
  refine lv_iadd hx hb dX2_sumOfRow_4 ?_
  refine lv_iload_n hx hb dX2_sumOfRow_5 rfl (lv_at hl 3 rfl) ?_
  refine lv_iadd hx hb dX2_sumOfRow_6 ?_
  refine lv_istore (lv' := [(4, .int ((start + 5) + length)), (3, .int 1), (0, .ref h0), (1, .int start), (2, .int length)]) hx hb dX2_sumOfRow_7 hl (by decide) rfl (fun ls hl => ?_)
  refine lv_iload_n hx hb dX2_sumOfRow_9 rfl (lv_at hl 3 rfl) ?_
  refine lv_iconst (v := 1) hx hb dX2_sumOfRow_10 (by decide) ?_
  refine lv_iadd hx hb dX2_sumOfRow_11 ?_
  refine lv_istore (lv' := [(5, .int (start + 1)), (4, .int ((start + 5) + length)), (3, .int 1), (0, .ref h0), (1, .int start), (2, .int length)]) hx hb dX2_sumOfRow_12 hl (by decide) rfl (fun ls hl => ?_)
  have loop14 : ∀ (n : Nat) (i : Int32) (x : Int32) (ls : Array Slot), (loopE ((start + 5) + length) (fun i (x : Int32) => (.inl (sl_mix x (ca_at N f i)) : Int32 ⊕ Int32)) id i x = sl_sum N f start length) → (((start + 5) + length).toInt - i.toInt).toNat < n → lv_has ls 7 [(5, .int i), (4, .int ((start + 5) + length)), (3, .int x), (0, .ref h0), (1, .int start), (2, .int length)] → W p l e (headSpec wsX2_sumOfRow ({ frames := 1, cells := 0, slots := 0, locals := 21 })).room s m ([.ref h0, .int start, .int length] : List Value).toArray below meth c s.heap [] 0 0 (MQ below (vp_Si (fun x => x = sl_sum N f start length)) ([.ref h0, .int start, .int length] : List Value).toArray s 0 0 (fun _ => False)) (F0 m 14 ls []) := by
    intro n
    induction n with
    | zero => intro i x ls hi hm; exact absurd hm (Nat.not_lt_zero _)
    | succ n ih =>
      intro i x ls hi hm hl
      refine lv_iload hx hb dX2_sumOfRow_14 (lv_at hl 0 rfl) ?_
      refine lv_iload hx hb dX2_sumOfRow_16 (lv_at hl 1 rfl) ?_
      refine lv_icmp_ge (tgt := 52) hx hb dX2_sumOfRow_18 (by decide) (fun c1 => ?_) (fun c1 => ?_)
      · refine lv_iload_n hx hb dX2_sumOfRow_52 rfl (lv_at hl 2 rfl) ?_
        exact k_iretP (ret := none) hx hb hr hlocks (by rw [← hi, loopE_exit c1]; rfl) rfl dX2_sumOfRow_53
      · refine lv_iload_n hx hb dX2_sumOfRow_21 rfl (lv_at hl 2 rfl) ?_
        refine lv_aload_n hx hb dX2_sumOfRow_22 rfl (lv_at hl 3 rfl) ?_
        refine lv_iload hx hb dX2_sumOfRow_23 (lv_at hl 0 rfl) ?_
        refine k_afP (va_runV (rest := [.int x]) ⟨hx, hb, hml, hown, hts⟩ (m_X0_at l dC dI cI cJ h0 a0 N f i (by first | assumption | decide)) (cwV 1 hts gX2_sumOfRow_X0_at rfl rfl rfl hdv_X0_at ⟨Nat.le_of_ble_eq_true rfl, Nat.le_of_ble_eq_true rfl⟩) (k_preVP hK hP [0, 1] rfl 0 rfl rfl) rfl rfl hl.1 rfl (lv_room (Nat.le_of_ble_eq_true rfl)) dX2_sumOfRow_25 ⟨Nat.le_of_ble_eq_true rfl, Nat.le_of_ble_eq_true rfl⟩) ?_
        refine lv_ixor hx hb dX2_sumOfRow_28 ?_
        refine lv_istore (lv' := [(6, .int (x ^^^ (ca_at N f i))), (5, .int i), (4, .int ((start + 5) + length)), (3, .int x), (0, .ref h0), (1, .int start), (2, .int length)]) hx hb dX2_sumOfRow_29 hl (by decide) rfl (fun ls hl => ?_)
        refine lv_iload hx hb dX2_sumOfRow_31 (lv_at hl 0 rfl) ?_
        refine lv_bipush (v := 7) hx hb dX2_sumOfRow_33 (by decide) ?_
        refine lv_ishl hx hb dX2_sumOfRow_35 ?_
        refine lv_iload hx hb dX2_sumOfRow_36 (lv_at hl 0 rfl) ?_
        refine lv_bipush (v := 25) hx hb dX2_sumOfRow_38 (by decide) ?_
        refine lv_iushr (v := ushr (x ^^^ (ca_at N f i)) 25) hx hb dX2_sumOfRow_40 rfl ?_
        refine lv_ior hx hb dX2_sumOfRow_41 ?_
        refine lv_ldc hx hb hown (hts (.constant RX2 201 (-2048144777)) (by decide +kernel)) dX2_sumOfRow_42 ?_
        refine lv_imul hx hb dX2_sumOfRow_44 ?_
        refine lv_istore_n (lv' := [(3, .int ((((x ^^^ (ca_at N f i)) <<< (7 &&& 31)) ||| (ushr (x ^^^ (ca_at N f i)) 25)) * (-2048144777))), (6, .int (x ^^^ (ca_at N f i))), (5, .int i), (4, .int ((start + 5) + length)), (0, .ref h0), (1, .int start), (2, .int length)]) hx hb dX2_sumOfRow_45 rfl hl (by decide) rfl (fun ls hl => ?_)
        refine lv_iinc (v := i + 1) (lv' := [(5, .int (i + 1)), (3, .int ((((x ^^^ (ca_at N f i)) <<< (7 &&& 31)) ||| (ushr (x ^^^ (ca_at N f i)) 25)) * (-2048144777))), (6, .int (x ^^^ (ca_at N f i))), (4, .int ((start + 5) + length)), (0, .ref h0), (1, .int start), (2, .int length)]) hx hb dX2_sumOfRow_46 hl (k := 2) rfl rfl (by decide) rfl (fun ls hl => ?_)
        refine lv_goto (tgt := 14) hx hb dX2_sumOfRow_49 (by decide) ?_
        exact ih (i + 1) ((((x ^^^ (ca_at N f i)) <<< (7 &&& 31)) ||| (ushr (x ^^^ (ca_at N f i)) 25)) * (-2048144777)) ls (by rw [loopE_go c1 rfl] at hi; exact hi) (k_meas c1 hm) (lv_sub hl [0, 3, 1, 4, 5, 6] rfl)
  exact loop14 _ (start + 1) 1 ls rfl (Nat.lt_succ_self _) (lv_sub hl [0, 1, 2, 3, 4, 5] rfl)
set_option maxHeartbeats 4000000 in
set_option maxRecDepth 100000 in
theorem m_X1_has (l : Launch) (dC : Nat → ClassId) (dI : Nat → Nat → Nat) (cI cJ : ClassId) (r : Nat) (qi : Nat) (ai : Nat) (qs : Nat) (aS : Nat) (qk : Nat) (ak : Nat) (qt : Nat) (aT : Nat) (N : Nat) (K : Nat) (fi : Nat → Int32) (fs : Nat → Int32) (fk : Nat → Int32) (ft : Nat → Int32) (last : Int32) (used : Int32) (lod : Int32) (uod : Int32) (number : Int32)  : cP l yX1_has wsX1_has ({ frames := 0, cells := 0, slots := 0, locals := 0 }) dC dI cI cJ [(r, .inr (2, [.ref qi, .ref qs, .ref qk, .ref qt, .int last, .int used, .int lod, .int uod])), (qi, .inr (1, [.ref ai])), (ai, .inl (cI, N, .inl fi)), (qs, .inr (1, [.ref aS])), (aS, .inl (cI, K, .inl fs)), (qk, .inr (1, [.ref ak])), (ak, .inl (cI, 6, .inl fk)), (qt, .inr (1, [.ref aT])), (aT, .inl (cI, 8, .inl ft))] [.ref r, .int number] (if number < 1 then 0 else if last < number then 0 else 1) := by
  refine Met.ofW (cc := cX1_has) (maxL := 2) (ret := (some .boolean)) (by decide) rfl ?_
  intro p e s m args below meth c s₁ B hml hv
  obtain ⟨rfl, hP, hK⟩ := hv
  have hx := B.exec
  have hb := B.bytes
  have hr := B.returns
  have hts := atoms_spec (ws := wsX1_has) B.pre
  have hown : s.vm.findClass RX1 = some m.cls := findClass_of_methodNamed B.named
  have hlocks := B.notSynchronized
  have inX1 : ∀ w ∈ wsX10, w ∈ wsX1_has := fun w h => (List.mem_cons_of_mem _ (List.mem_append_right _ h))
  have fl29 := hts (.fieldLink RX1 29 "StockLog$Rows" "last" "I") (by decide +kernel)
  have hl := lv_entry ([.ref r, .int number]) (n := 2) (Nat.le_of_ble_eq_true rfl)
  rw [lg_entry_eq]
  generalize (lg_sl ([.ref r, .int number]) ++ List.replicate (2 - (lg_sl ([.ref r, .int number])).length) Slot.unset).toArray = ls at hl ⊢
  have hl : lv_has ls 2 [(0, .ref r), (1, .int number)] := hl
  refine lv_iload_n hx hb dX1_has_0 rfl (lv_at hl 1 rfl) ?_
  refine lv_iconst (v := 1) hx hb dX1_has_1 (by decide) ?_
  refine lv_icmp_lt (tgt := 17) hx hb dX1_has_2 (by decide) (fun c1 => ?_) (fun c1 => ?_)
  · refine lv_iconst (v := 0) hx hb dX1_has_17 (by decide) ?_
    exact k_zretP (ret := none) hx hb hr hlocks (by simp only [if_pos c1]) (Or.inl rfl) rfl dX1_has_18
  · refine lv_iload_n hx hb dX1_has_5 rfl (lv_at hl 1 rfl) ?_
    refine lv_aload_n hx hb dX1_has_6 rfl (lv_at hl 0 rfl) ?_
    refine k_get (ci := 2) (T := TX1) (N := 8) (C := RX1) hx hb hts inX1 hown hK hP 0 rfl rfl 4 (by decide) fl29 rfl rfl dX1_has_7 ?_
    refine lv_icmp_gt (tgt := 17) hx hb dX1_has_10 (by decide) (fun c2 => ?_) (fun c2 => ?_)
    · refine lv_iconst (v := 0) hx hb dX1_has_17 (by decide) ?_
      exact k_zretP (ret := none) hx hb hr hlocks (by simp only [if_neg c1, if_pos c2]) (Or.inl rfl) rfl dX1_has_18
    · refine lv_iconst (v := 1) hx hb dX1_has_13 (by decide) ?_
      refine lv_goto (tgt := 18) hx hb dX1_has_14 (by decide) ?_
      exact k_zretP (ret := none) hx hb hr hlocks (by simp only [if_neg c1, if_neg c2]) (Or.inr rfl) rfl dX1_has_18
set_option maxHeartbeats 4000000 in
set_option maxRecDepth 100000 in
theorem m_X1_kindOf (l : Launch) (dC : Nat → ClassId) (dI : Nat → Nat → Nat) (cI cJ : ClassId) (r : Nat) (qi : Nat) (ai : Nat) (qs : Nat) (aS : Nat) (qk : Nat) (ak : Nat) (qt : Nat) (aT : Nat) (N : Nat) (K : Nat) (fi : Nat → Int32) (fs : Nat → Int32) (fk : Nat → Int32) (ft : Nat → Int32) (last : Int32) (used : Int32) (lod : Int32) (uod : Int32) (number : Int32) (hN : N < 2 ^ 31) (hK9 : K < 2 ^ 31) : cP l yX1_kindOf wsX1_kindOf ({ frames := 1, cells := 0, slots := 0, locals := 21 }) dC dI cI cJ [(r, .inr (2, [.ref qi, .ref qs, .ref qk, .ref qt, .int last, .int used, .int lod, .int uod])), (qi, .inr (1, [.ref ai])), (ai, .inl (cI, N, .inl fi)), (qs, .inr (1, [.ref aS])), (aS, .inl (cI, K, .inl fs)), (qk, .inr (1, [.ref ak])), (ak, .inl (cI, 6, .inl fk)), (qt, .inr (1, [.ref aT])), (aT, .inl (cI, 8, .inl ft))] [.ref r, .int number] (rw_kindOf N K fi fs number) := by
  refine Met.ofW (cc := cX1_kindOf) (maxL := 2) (ret := (some .int)) (by decide) rfl ?_
  intro p e s m args below meth c s₁ B hml hv
  obtain ⟨rfl, hP, hK⟩ := hv
  have hx := B.exec
  have hb := B.bytes
  have hr := B.returns
  have hts := atoms_spec (ws := wsX1_kindOf) B.pre
  have hown : s.vm.findClass RX1 = some m.cls := findClass_of_methodNamed B.named
  have hlocks := B.notSynchronized
  have inX1 : ∀ w ∈ wsX10, w ∈ wsX1_kindOf := fun w h => (List.mem_cons_of_mem _ (List.mem_append_left _ (List.mem_append_right _ h)))
  have fl14 := hts (.fieldLink RX1 14 "StockLog$Rows" "image" "LStockLog$Cells;") (by decide +kernel)
  have fl20 := hts (.fieldLink RX1 20 "StockLog$Rows" "starts" "LStockLog$Cells;") (by decide +kernel)
  have hl := lv_entry ([.ref r, .int number]) (n := 2) (Nat.le_of_ble_eq_true rfl)
  rw [lg_entry_eq]
  generalize (lg_sl ([.ref r, .int number]) ++ List.replicate (2 - (lg_sl ([.ref r, .int number])).length) Slot.unset).toArray = ls at hl ⊢
  have hl : lv_has ls 2 [(0, .ref r), (1, .int number)] := hl
  refine lv_aload_n hx hb dX1_kindOf_0 rfl (lv_at hl 0 rfl) ?_
  refine k_get (ci := 2) (T := TX1) (N := 8) (C := RX1) hx hb hts inX1 hown hK hP 0 rfl rfl 0 (by decide) fl14 rfl rfl dX1_kindOf_1 ?_
  refine lv_aload_n hx hb dX1_kindOf_4 rfl (lv_at hl 0 rfl) ?_
  refine k_get (ci := 2) (T := TX1) (N := 8) (C := RX1) hx hb hts inX1 hown hK hP 0 rfl rfl 1 (by decide) fl20 rfl rfl dX1_kindOf_5 ?_
  refine lv_iload_n hx hb dX1_kindOf_8 rfl (lv_at hl 1 rfl) ?_
  refine k_afP (va_runV (rest := [.ref qi]) ⟨hx, hb, hml, hown, hts⟩ (m_X0_at l dC dI cI cJ qs aS K fs number (by first | assumption | decide)) (cwV 1 hts gX1_kindOf_X0_at rfl rfl rfl hdv_X0_at ⟨Nat.le_of_ble_eq_true rfl, Nat.le_of_ble_eq_true rfl⟩) (k_preVP hK hP [3, 4] rfl 3 rfl rfl) rfl rfl hl.1 rfl (lv_room (Nat.le_of_ble_eq_true rfl)) dX1_kindOf_9 ⟨Nat.le_of_ble_eq_true rfl, Nat.le_of_ble_eq_true rfl⟩) ?_
  refine lv_iconst (v := 1) hx hb dX1_kindOf_12 (by decide) ?_
  refine lv_iadd hx hb dX1_kindOf_13 ?_
  refine k_afP (va_runV (rest := []) ⟨hx, hb, hml, hown, hts⟩ (m_X0_at l dC dI cI cJ qi ai N fi ((ca_at K fs number) + 1) (by first | assumption | decide)) (cwV 1 hts gX1_kindOf_X0_at rfl rfl rfl hdv_X0_at ⟨Nat.le_of_ble_eq_true rfl, Nat.le_of_ble_eq_true rfl⟩) (k_preVP hK hP [1, 2] rfl 1 rfl rfl) rfl rfl hl.1 rfl (lv_room (Nat.le_of_ble_eq_true rfl)) dX1_kindOf_14 ⟨Nat.le_of_ble_eq_true rfl, Nat.le_of_ble_eq_true rfl⟩) ?_
  exact k_iretP (ret := none) hx hb hr hlocks rfl rfl dX1_kindOf_17
set_option maxHeartbeats 4000000 in
set_option maxRecDepth 100000 in
theorem m_X1_lengthOf (l : Launch) (dC : Nat → ClassId) (dI : Nat → Nat → Nat) (cI cJ : ClassId) (r : Nat) (qi : Nat) (ai : Nat) (qs : Nat) (aS : Nat) (qk : Nat) (ak : Nat) (qt : Nat) (aT : Nat) (N : Nat) (K : Nat) (fi : Nat → Int32) (fs : Nat → Int32) (fk : Nat → Int32) (ft : Nat → Int32) (last : Int32) (used : Int32) (lod : Int32) (uod : Int32) (number : Int32) (hN : N < 2 ^ 31) (hK9 : K < 2 ^ 31) : cP l yX1_lengthOf wsX1_lengthOf ({ frames := 1, cells := 0, slots := 0, locals := 21 }) dC dI cI cJ [(r, .inr (2, [.ref qi, .ref qs, .ref qk, .ref qt, .int last, .int used, .int lod, .int uod])), (qi, .inr (1, [.ref ai])), (ai, .inl (cI, N, .inl fi)), (qs, .inr (1, [.ref aS])), (aS, .inl (cI, K, .inl fs)), (qk, .inr (1, [.ref ak])), (ak, .inl (cI, 6, .inl fk)), (qt, .inr (1, [.ref aT])), (aT, .inl (cI, 8, .inl ft))] [.ref r, .int number] (rw_lengthOf N K fi fs number) := by
  refine Met.ofW (cc := cX1_lengthOf) (maxL := 2) (ret := (some .int)) (by decide) rfl ?_
  intro p e s m args below meth c s₁ B hml hv
  obtain ⟨rfl, hP, hK⟩ := hv
  have hx := B.exec
  have hb := B.bytes
  have hr := B.returns
  have hts := atoms_spec (ws := wsX1_lengthOf) B.pre
  have hown : s.vm.findClass RX1 = some m.cls := findClass_of_methodNamed B.named
  have hlocks := B.notSynchronized
  have inX1 : ∀ w ∈ wsX10, w ∈ wsX1_lengthOf := fun w h => (List.mem_cons_of_mem _ (List.mem_append_left _ (List.mem_append_right _ h)))
  have fl14 := hts (.fieldLink RX1 14 "StockLog$Rows" "image" "LStockLog$Cells;") (by decide +kernel)
  have fl20 := hts (.fieldLink RX1 20 "StockLog$Rows" "starts" "LStockLog$Cells;") (by decide +kernel)
  have hl := lv_entry ([.ref r, .int number]) (n := 2) (Nat.le_of_ble_eq_true rfl)
  rw [lg_entry_eq]
  generalize (lg_sl ([.ref r, .int number]) ++ List.replicate (2 - (lg_sl ([.ref r, .int number])).length) Slot.unset).toArray = ls at hl ⊢
  have hl : lv_has ls 2 [(0, .ref r), (1, .int number)] := hl
  refine lv_aload_n hx hb dX1_lengthOf_0 rfl (lv_at hl 0 rfl) ?_
  refine k_get (ci := 2) (T := TX1) (N := 8) (C := RX1) hx hb hts inX1 hown hK hP 0 rfl rfl 0 (by decide) fl14 rfl rfl dX1_lengthOf_1 ?_
  refine lv_aload_n hx hb dX1_lengthOf_4 rfl (lv_at hl 0 rfl) ?_
  refine k_get (ci := 2) (T := TX1) (N := 8) (C := RX1) hx hb hts inX1 hown hK hP 0 rfl rfl 1 (by decide) fl20 rfl rfl dX1_lengthOf_5 ?_
  refine lv_iload_n hx hb dX1_lengthOf_8 rfl (lv_at hl 1 rfl) ?_
  refine k_afP (va_runV (rest := [.ref qi]) ⟨hx, hb, hml, hown, hts⟩ (m_X0_at l dC dI cI cJ qs aS K fs number (by first | assumption | decide)) (cwV 1 hts gX1_lengthOf_X0_at rfl rfl rfl hdv_X0_at ⟨Nat.le_of_ble_eq_true rfl, Nat.le_of_ble_eq_true rfl⟩) (k_preVP hK hP [3, 4] rfl 3 rfl rfl) rfl rfl hl.1 rfl (lv_room (Nat.le_of_ble_eq_true rfl)) dX1_lengthOf_9 ⟨Nat.le_of_ble_eq_true rfl, Nat.le_of_ble_eq_true rfl⟩) ?_
  refine lv_iconst (v := 4) hx hb dX1_lengthOf_12 (by decide) ?_
  refine lv_iadd hx hb dX1_lengthOf_13 ?_
  refine k_afP (va_runV (rest := []) ⟨hx, hb, hml, hown, hts⟩ (m_X0_at l dC dI cI cJ qi ai N fi ((ca_at K fs number) + 4) (by first | assumption | decide)) (cwV 1 hts gX1_lengthOf_X0_at rfl rfl rfl hdv_X0_at ⟨Nat.le_of_ble_eq_true rfl, Nat.le_of_ble_eq_true rfl⟩) (k_preVP hK hP [1, 2] rfl 1 rfl rfl) rfl rfl hl.1 rfl (lv_room (Nat.le_of_ble_eq_true rfl)) dX1_lengthOf_14 ⟨Nat.le_of_ble_eq_true rfl, Nat.le_of_ble_eq_true rfl⟩) ?_
  exact k_iretP (ret := none) hx hb hr hlocks rfl rfl dX1_lengthOf_17
set_option maxHeartbeats 4000000 in
set_option maxRecDepth 100000 in
theorem m_X1_byteAt (l : Launch) (dC : Nat → ClassId) (dI : Nat → Nat → Nat) (cI cJ : ClassId) (r : Nat) (qi : Nat) (ai : Nat) (qs : Nat) (aS : Nat) (qk : Nat) (ak : Nat) (qt : Nat) (aT : Nat) (N : Nat) (K : Nat) (fi : Nat → Int32) (fs : Nat → Int32) (fk : Nat → Int32) (ft : Nat → Int32) (last : Int32) (used : Int32) (lod : Int32) (uod : Int32) (number : Int32) (i : Int32) (hN : N < 2 ^ 31) (hK9 : K < 2 ^ 31) : cP l yX1_byteAt wsX1_byteAt ({ frames := 1, cells := 0, slots := 0, locals := 21 }) dC dI cI cJ [(r, .inr (2, [.ref qi, .ref qs, .ref qk, .ref qt, .int last, .int used, .int lod, .int uod])), (qi, .inr (1, [.ref ai])), (ai, .inl (cI, N, .inl fi)), (qs, .inr (1, [.ref aS])), (aS, .inl (cI, K, .inl fs)), (qk, .inr (1, [.ref ak])), (ak, .inl (cI, 6, .inl fk)), (qt, .inr (1, [.ref aT])), (aT, .inl (cI, 8, .inl ft))] [.ref r, .int number, .int i] (rw_byteAt N K fi fs number i) := by
  refine Met.ofW (cc := cX1_byteAt) (maxL := 3) (ret := (some .int)) (by decide) rfl ?_
  intro p e s m args below meth c s₁ B hml hv
  obtain ⟨rfl, hP, hK⟩ := hv
  have hx := B.exec
  have hb := B.bytes
  have hr := B.returns
  have hts := atoms_spec (ws := wsX1_byteAt) B.pre
  have hown : s.vm.findClass RX1 = some m.cls := findClass_of_methodNamed B.named
  have hlocks := B.notSynchronized
  have inX1 : ∀ w ∈ wsX10, w ∈ wsX1_byteAt := fun w h => (List.mem_cons_of_mem _ (List.mem_append_left _ (List.mem_append_right _ h)))
  have fl14 := hts (.fieldLink RX1 14 "StockLog$Rows" "image" "LStockLog$Cells;") (by decide +kernel)
  have fl20 := hts (.fieldLink RX1 20 "StockLog$Rows" "starts" "LStockLog$Cells;") (by decide +kernel)
  have hl := lv_entry ([.ref r, .int number, .int i]) (n := 3) (Nat.le_of_ble_eq_true rfl)
  rw [lg_entry_eq]
  generalize (lg_sl ([.ref r, .int number, .int i]) ++ List.replicate (3 - (lg_sl ([.ref r, .int number, .int i])).length) Slot.unset).toArray = ls at hl ⊢
  have hl : lv_has ls 3 [(0, .ref r), (1, .int number), (2, .int i)] := hl
  refine lv_aload_n hx hb dX1_byteAt_0 rfl (lv_at hl 0 rfl) ?_
  refine k_get (ci := 2) (T := TX1) (N := 8) (C := RX1) hx hb hts inX1 hown hK hP 0 rfl rfl 0 (by decide) fl14 rfl rfl dX1_byteAt_1 ?_
  refine lv_aload_n hx hb dX1_byteAt_4 rfl (lv_at hl 0 rfl) ?_
  refine k_get (ci := 2) (T := TX1) (N := 8) (C := RX1) hx hb hts inX1 hown hK hP 0 rfl rfl 1 (by decide) fl20 rfl rfl dX1_byteAt_5 ?_
  refine lv_iload_n hx hb dX1_byteAt_8 rfl (lv_at hl 1 rfl) ?_
  refine k_afP (va_runV (rest := [.ref qi]) ⟨hx, hb, hml, hown, hts⟩ (m_X0_at l dC dI cI cJ qs aS K fs number (by first | assumption | decide)) (cwV 1 hts gX1_byteAt_X0_at rfl rfl rfl hdv_X0_at ⟨Nat.le_of_ble_eq_true rfl, Nat.le_of_ble_eq_true rfl⟩) (k_preVP hK hP [3, 4] rfl 3 rfl rfl) rfl rfl hl.1 rfl (lv_room (Nat.le_of_ble_eq_true rfl)) dX1_byteAt_9 ⟨Nat.le_of_ble_eq_true rfl, Nat.le_of_ble_eq_true rfl⟩) ?_
  refine lv_iconst (v := 5) hx hb dX1_byteAt_12 (by decide) ?_
  refine lv_iadd hx hb dX1_byteAt_13 ?_
  refine lv_iload_n hx hb dX1_byteAt_14 rfl (lv_at hl 2 rfl) ?_
  refine lv_iadd hx hb dX1_byteAt_15 ?_
  refine k_afP (va_runV (rest := []) ⟨hx, hb, hml, hown, hts⟩ (m_X0_at l dC dI cI cJ qi ai N fi (((ca_at K fs number) + 5) + i) (by first | assumption | decide)) (cwV 1 hts gX1_byteAt_X0_at rfl rfl rfl hdv_X0_at ⟨Nat.le_of_ble_eq_true rfl, Nat.le_of_ble_eq_true rfl⟩) (k_preVP hK hP [1, 2] rfl 1 rfl rfl) rfl rfl hl.1 rfl (lv_room (Nat.le_of_ble_eq_true rfl)) dX1_byteAt_16 ⟨Nat.le_of_ble_eq_true rfl, Nat.le_of_ble_eq_true rfl⟩) ?_
  exact k_iretP (ret := none) hx hb hr hlocks rfl rfl dX1_byteAt_19
set_option maxHeartbeats 4000000 in
set_option maxRecDepth 100000 in
theorem m_X1_sumOfBytes (l : Launch) (dC : Nat → ClassId) (dI : Nat → Nat → Nat) (cI cJ : ClassId) (r : Nat) (qi : Nat) (ai : Nat) (qs : Nat) (aS : Nat) (qk : Nat) (ak : Nat) (qt : Nat) (aT : Nat) (N : Nat) (K : Nat) (fi : Nat → Int32) (fs : Nat → Int32) (fk : Nat → Int32) (ft : Nat → Int32) (last : Int32) (used : Int32) (lod : Int32) (uod : Int32) (number : Int32) (hN : N < 2 ^ 31) (hK9 : K < 2 ^ 31) : cP l yX1_sumOfBytes wsX1_sumOfBytes ({ frames := 2, cells := 0, slots := 0, locals := 43 }) dC dI cI cJ [(r, .inr (2, [.ref qi, .ref qs, .ref qk, .ref qt, .int last, .int used, .int lod, .int uod])), (qi, .inr (1, [.ref ai])), (ai, .inl (cI, N, .inl fi)), (qs, .inr (1, [.ref aS])), (aS, .inl (cI, K, .inl fs)), (qk, .inr (1, [.ref ak])), (ak, .inl (cI, 6, .inl fk)), (qt, .inr (1, [.ref aT])), (aT, .inl (cI, 8, .inl ft))] [.ref r, .int number] (rw_sumOfBytes N K fi fs number) := by
  refine Met.ofW (cc := cX1_sumOfBytes) (maxL := 5) (ret := (some .int)) (by decide) rfl ?_
  intro p e s m args below meth c s₁ B hml hv
  obtain ⟨rfl, hP, hK⟩ := hv
  have hx := B.exec
  have hb := B.bytes
  have hr := B.returns
  have hts := atoms_spec (ws := wsX1_sumOfBytes) B.pre
  have hown : s.vm.findClass RX1 = some m.cls := findClass_of_methodNamed B.named
  have hlocks := B.notSynchronized
  have hl := lv_entry ([.ref r, .int number]) (n := 5) (Nat.le_of_ble_eq_true rfl)
  rw [lg_entry_eq]
  generalize (lg_sl ([.ref r, .int number]) ++ List.replicate (5 - (lg_sl ([.ref r, .int number])).length) Slot.unset).toArray = ls at hl ⊢
  have hl : lv_has ls 5 [(0, .ref r), (1, .int number)] := hl
  refine lv_aload_n hx hb dX1_sumOfBytes_0 rfl (lv_at hl 0 rfl) ?_
  refine lv_iload_n hx hb dX1_sumOfBytes_1 rfl (lv_at hl 1 rfl) ?_
  refine k_afP (va_runV (rest := []) ⟨hx, hb, hml, hown, hts⟩ (m_X1_lengthOf l dC dI cI cJ r qi ai qs aS qk ak qt aT N K fi fs fk ft last used lod uod number (by first | assumption | decide) (by first | assumption | decide)) (cwV 1 hts gX1_sumOfBytes_X1_lengthOf rfl rfl rfl hdv_X1_lengthOf ⟨Nat.le_of_ble_eq_true rfl, Nat.le_of_ble_eq_true rfl⟩) (k_preVP hK hP [0, 1, 2, 3, 4, 5, 6, 7, 8] rfl 0 rfl rfl) rfl rfl hl.1 rfl (lv_room (Nat.le_of_ble_eq_true rfl)) dX1_sumOfBytes_2 ⟨Nat.le_of_ble_eq_true rfl, Nat.le_of_ble_eq_true rfl⟩) ?_
  refine lv_istore_n (lv' := [(2, .int (rw_lengthOf N K fi fs number)), (0, .ref r), (1, .int number)]) hx hb dX1_sumOfBytes_5 rfl hl (by decide) rfl (fun ls hl => ?_)
  refine lv_iconst (v := 0) hx hb dX1_sumOfBytes_6 (by decide) ?_
  refine lv_istore_n (lv' := [(3, .int 0), (2, .int (rw_lengthOf N K fi fs number)), (0, .ref r), (1, .int number)]) hx hb dX1_sumOfBytes_7 rfl hl (by decide) rfl (fun ls hl => ?_)
  refine lv_iconst (v := 0) hx hb dX1_sumOfBytes_8 (by decide) ?_
  refine lv_istore (lv' := [(4, .int 0), (3, .int 0), (2, .int (rw_lengthOf N K fi fs number)), (0, .ref r), (1, .int number)]) hx hb dX1_sumOfBytes_9 hl (by decide) rfl (fun ls hl => ?_)
  have loop11 : ∀ (n : Nat) (i : Int32) (x : Int32) (ls : Array Slot), (loopE (rw_lengthOf N K fi fs number) (fun i (x : Int32) => (.inl (x + (rw_byteAt N K fi fs number i)) : Int32 ⊕ Int32)) id i x = rw_sumOfBytes N K fi fs number) → ((rw_lengthOf N K fi fs number).toInt - i.toInt).toNat < n → lv_has ls 5 [(4, .int i), (3, .int x), (2, .int (rw_lengthOf N K fi fs number)), (0, .ref r), (1, .int number)] → W p l e (headSpec wsX1_sumOfBytes ({ frames := 2, cells := 0, slots := 0, locals := 43 })).room s m ([.ref r, .int number] : List Value).toArray below meth c s.heap [] 0 0 (MQ below (vp_Si (fun x => x = rw_sumOfBytes N K fi fs number)) ([.ref r, .int number] : List Value).toArray s 0 0 (fun _ => False)) (F0 m 11 ls []) := by
    intro n
    induction n with
    | zero => intro i x ls hi hm; exact absurd hm (Nat.not_lt_zero _)
    | succ n ih =>
      intro i x ls hi hm hl
      refine lv_iload hx hb dX1_sumOfBytes_11 (lv_at hl 0 rfl) ?_
      refine lv_iload_n hx hb dX1_sumOfBytes_13 rfl (lv_at hl 2 rfl) ?_
      refine lv_icmp_ge (tgt := 33) hx hb dX1_sumOfBytes_14 (by decide) (fun c1 => ?_) (fun c1 => ?_)
      · refine lv_iload_n hx hb dX1_sumOfBytes_33 rfl (lv_at hl 1 rfl) ?_
        exact k_iretP (ret := none) hx hb hr hlocks (by rw [← hi, loopE_exit c1]; rfl) rfl dX1_sumOfBytes_34
      · refine lv_iload_n hx hb dX1_sumOfBytes_17 rfl (lv_at hl 1 rfl) ?_
        refine lv_aload_n hx hb dX1_sumOfBytes_18 rfl (lv_at hl 3 rfl) ?_
        refine lv_iload_n hx hb dX1_sumOfBytes_19 rfl (lv_at hl 4 rfl) ?_
        refine lv_iload hx hb dX1_sumOfBytes_20 (lv_at hl 0 rfl) ?_
        refine k_afP (va_runV (rest := [.int x]) ⟨hx, hb, hml, hown, hts⟩ (m_X1_byteAt l dC dI cI cJ r qi ai qs aS qk ak qt aT N K fi fs fk ft last used lod uod number i (by first | assumption | decide) (by first | assumption | decide)) (cwV 2 hts gX1_sumOfBytes_X1_byteAt rfl rfl rfl hdv_X1_byteAt ⟨Nat.le_of_ble_eq_true rfl, Nat.le_of_ble_eq_true rfl⟩) (k_preVP hK hP [0, 1, 2, 3, 4, 5, 6, 7, 8] rfl 0 rfl rfl) rfl rfl hl.1 rfl (lv_room (Nat.le_of_ble_eq_true rfl)) dX1_sumOfBytes_22 ⟨Nat.le_of_ble_eq_true rfl, Nat.le_of_ble_eq_true rfl⟩) ?_
        refine lv_iadd hx hb dX1_sumOfBytes_25 ?_
        refine lv_istore_n (lv' := [(3, .int (x + (rw_byteAt N K fi fs number i))), (4, .int i), (2, .int (rw_lengthOf N K fi fs number)), (0, .ref r), (1, .int number)]) hx hb dX1_sumOfBytes_26 rfl hl (by decide) rfl (fun ls hl => ?_)
        refine lv_iinc (v := i + 1) (lv' := [(4, .int (i + 1)), (3, .int (x + (rw_byteAt N K fi fs number i))), (2, .int (rw_lengthOf N K fi fs number)), (0, .ref r), (1, .int number)]) hx hb dX1_sumOfBytes_27 hl (k := 1) rfl rfl (by decide) rfl (fun ls hl => ?_)
        refine lv_goto (tgt := 11) hx hb dX1_sumOfBytes_30 (by decide) ?_
        exact ih (i + 1) (x + (rw_byteAt N K fi fs number i)) ls (by rw [loopE_go c1 rfl] at hi; exact hi) (k_meas c1 hm) (lv_sub hl [0, 1, 2, 3, 4] rfl)
  exact loop11 _ 0 0 ls rfl (Nat.lt_succ_self _) (lv_sub hl [0, 1, 2, 3, 4] rfl)
set_option maxHeartbeats 4000000 in
set_option maxRecDepth 100000 in
theorem m_X1_numberOf (l : Launch) (dC : Nat → ClassId) (dI : Nat → Nat → Nat) (cI cJ : ClassId) (r : Nat) (qi : Nat) (ai : Nat) (qs : Nat) (aS : Nat) (qk : Nat) (ak : Nat) (qt : Nat) (aT : Nat) (N : Nat) (K : Nat) (fi : Nat → Int32) (fs : Nat → Int32) (fk : Nat → Int32) (ft : Nat → Int32) (last : Int32) (used : Int32) (lod : Int32) (uod : Int32) (kind : Int32) (i : Int32) (hN : N < 2 ^ 31) (hK9 : K < 2 ^ 31) (hlast : last < 2147483647) : cP l yX1_numberOf wsX1_numberOf ({ frames := 2, cells := 0, slots := 0, locals := 42 }) dC dI cI cJ [(r, .inr (2, [.ref qi, .ref qs, .ref qk, .ref qt, .int last, .int used, .int lod, .int uod])), (qi, .inr (1, [.ref ai])), (ai, .inl (cI, N, .inl fi)), (qs, .inr (1, [.ref aS])), (aS, .inl (cI, K, .inl fs)), (qk, .inr (1, [.ref ak])), (ak, .inl (cI, 6, .inl fk)), (qt, .inr (1, [.ref aT])), (aT, .inl (cI, 8, .inl ft))] [.ref r, .int kind, .int i] (rw_numberOf N K fi fs last kind i) := by
  refine Met.ofW (cc := cX1_numberOf) (maxL := 5) (ret := (some .int)) (by decide) rfl ?_
  intro p e s m args below meth c s₁ B hml hv
  obtain ⟨rfl, hP, hK⟩ := hv
  have hx := B.exec
  have hb := B.bytes
  have hr := B.returns
  have hts := atoms_spec (ws := wsX1_numberOf) B.pre
  have hown : s.vm.findClass RX1 = some m.cls := findClass_of_methodNamed B.named
  have hlocks := B.notSynchronized
  have inX1 : ∀ w ∈ wsX10, w ∈ wsX1_numberOf := fun w h => (List.mem_cons_of_mem _ (List.mem_append_left _ (List.mem_append_right _ h)))
  have fl29 := hts (.fieldLink RX1 29 "StockLog$Rows" "last" "I") (by decide +kernel)
  have hl := lv_entry ([.ref r, .int kind, .int i]) (n := 5) (Nat.le_of_ble_eq_true rfl)
  rw [lg_entry_eq]
  generalize (lg_sl ([.ref r, .int kind, .int i]) ++ List.replicate (5 - (lg_sl ([.ref r, .int kind, .int i])).length) Slot.unset).toArray = ls at hl ⊢
  have hl : lv_has ls 5 [(0, .ref r), (1, .int kind), (2, .int i)] := hl
  refine lv_iconst (v := 0) hx hb dX1_numberOf_0 (by decide) ?_
  refine lv_istore_n (lv' := [(3, .int 0), (0, .ref r), (1, .int kind), (2, .int i)]) hx hb dX1_numberOf_1 rfl hl (by decide) rfl (fun ls hl => ?_)
  refine lv_iconst (v := 1) hx hb dX1_numberOf_2 (by decide) ?_
  refine lv_istore (lv' := [(4, .int 1), (3, .int 0), (0, .ref r), (1, .int kind), (2, .int i)]) hx hb dX1_numberOf_3 hl (by decide) rfl (fun ls hl => ?_)
  have loop5 : ∀ (n : Nat) (number : Int32) (before : Int32) (ls : Array Slot), (loopE (last + 1) (fun number (before : Int32) => rw_nstep N K fi fs kind i number before) (fun _ => -1) number before = rw_numberOf N K fi fs last kind i) → ((last + 1).toInt - number.toInt).toNat < n → lv_has ls 5 [(4, .int number), (3, .int before), (0, .ref r), (1, .int kind), (2, .int i)] → W p l e (headSpec wsX1_numberOf ({ frames := 2, cells := 0, slots := 0, locals := 42 })).room s m ([.ref r, .int kind, .int i] : List Value).toArray below meth c s.heap [] 0 0 (MQ below (vp_Si (fun x => x = rw_numberOf N K fi fs last kind i)) ([.ref r, .int kind, .int i] : List Value).toArray s 0 0 (fun _ => False)) (F0 m 5 ls []) := by
    intro n
    induction n with
    | zero => intro number before ls hi hm; exact absurd hm (Nat.not_lt_zero _)
    | succ n ih =>
      intro number before ls hi hm hl
      refine lv_iload hx hb dX1_numberOf_5 (lv_at hl 0 rfl) ?_
      refine lv_aload_n hx hb dX1_numberOf_7 rfl (lv_at hl 2 rfl) ?_
      refine k_get (ci := 2) (T := TX1) (N := 8) (C := RX1) hx hb hts inX1 hown hK hP 0 rfl rfl 4 (by decide) fl29 rfl rfl dX1_numberOf_8 ?_
      refine lv_icmp_gt (tgt := 41) hx hb dX1_numberOf_11 (by decide) (fun c1 => ?_) (fun c1 => ?_)
      · refine lv_iconst (v := (-1)) hx hb dX1_numberOf_41 (by decide) ?_
        exact k_iretP (ret := none) hx hb hr hlocks (by rw [← hi, loopE_exit ((k_le1 hlast).mp c1)]) rfl dX1_numberOf_42
      · refine lv_aload_n hx hb dX1_numberOf_14 rfl (lv_at hl 2 rfl) ?_
        refine lv_iload hx hb dX1_numberOf_15 (lv_at hl 0 rfl) ?_
        refine k_afP (va_runV (rest := []) ⟨hx, hb, hml, hown, hts⟩ (m_X1_kindOf l dC dI cI cJ r qi ai qs aS qk ak qt aT N K fi fs fk ft last used lod uod number (by first | assumption | decide) (by first | assumption | decide)) (cwV 1 hts gX1_numberOf_X1_kindOf rfl rfl rfl hdv_X1_kindOf ⟨Nat.le_of_ble_eq_true rfl, Nat.le_of_ble_eq_true rfl⟩) (k_preVP hK hP [0, 1, 2, 3, 4, 5, 6, 7, 8] rfl 0 rfl rfl) rfl rfl hl.1 rfl (lv_room (Nat.le_of_ble_eq_true rfl)) dX1_numberOf_17 ⟨Nat.le_of_ble_eq_true rfl, Nat.le_of_ble_eq_true rfl⟩) ?_
        refine lv_iload_n hx hb dX1_numberOf_20 rfl (lv_at hl 3 rfl) ?_
        refine lv_icmp_ne (tgt := 35) hx hb dX1_numberOf_21 (by decide) (fun c2 => ?_) (fun c2 => ?_)
        · refine lv_iinc (v := number + 1) (lv' := [(4, .int (number + 1)), (3, .int before), (0, .ref r), (1, .int kind), (2, .int i)]) hx hb dX1_numberOf_35 hl (k := 0) rfl rfl (by decide) rfl (fun ls hl => ?_)
          refine lv_goto (tgt := 5) hx hb dX1_numberOf_38 (by decide) ?_
          exact ih (number + 1) before ls (by rw [loopE_go (k_le1n hlast c1) (by simp only [rw_nstep, if_neg c2]; rfl)] at hi; exact hi) (k_meas (k_le1n hlast c1) hm) (lv_sub hl [0, 1, 2, 3, 4] rfl)
        · refine lv_iload_n hx hb dX1_numberOf_24 rfl (lv_at hl 1 rfl) ?_
          refine lv_iload_n hx hb dX1_numberOf_25 rfl (lv_at hl 4 rfl) ?_
          refine lv_icmp_ne (tgt := 32) hx hb dX1_numberOf_26 (by decide) (fun c3 => ?_) (fun c3 => ?_)
          · refine lv_iinc (v := before + 1) (lv' := [(3, .int (before + 1)), (4, .int number), (0, .ref r), (1, .int kind), (2, .int i)]) hx hb dX1_numberOf_32 hl (k := 1) rfl rfl (by decide) rfl (fun ls hl => ?_)
            refine lv_iinc (v := number + 1) (lv' := [(4, .int (number + 1)), (3, .int (before + 1)), (0, .ref r), (1, .int kind), (2, .int i)]) hx hb dX1_numberOf_35 hl (k := 1) rfl rfl (by decide) rfl (fun ls hl => ?_)
            refine lv_goto (tgt := 5) hx hb dX1_numberOf_38 (by decide) ?_
            exact ih (number + 1) (before + 1) ls (by rw [loopE_go (k_le1n hlast c1) (by simp only [rw_nstep, if_pos c2, if_neg c3]; rfl)] at hi; exact hi) (k_meas (k_le1n hlast c1) hm) (lv_sub hl [0, 1, 2, 3, 4] rfl)
          · refine lv_iload hx hb dX1_numberOf_29 (lv_at hl 0 rfl) ?_
            exact k_iretP (ret := none) hx hb hr hlocks (by rw [← hi, loopE_ret (k_le1n hlast c1) (by simp only [rw_nstep, if_pos c2, if_pos c3]; rfl)]) rfl dX1_numberOf_31
  exact loop5 _ 1 0 ls rfl (Nat.lt_succ_self _) (lv_sub hl [0, 1, 2, 3, 4] rfl)
set_option maxHeartbeats 4000000 in
set_option maxRecDepth 100000 in
theorem m_X1_bytesInMemory (l : Launch) (dC : Nat → ClassId) (dI : Nat → Nat → Nat) (cI cJ : ClassId) (r : Nat) (qi : Nat) (ai : Nat) (qs : Nat) (aS : Nat) (qk : Nat) (ak : Nat) (qt : Nat) (aT : Nat) (N : Nat) (K : Nat) (fi : Nat → Int32) (fs : Nat → Int32) (fk : Nat → Int32) (ft : Nat → Int32) (last : Int32) (used : Int32) (lod : Int32) (uod : Int32)  : cP l yX1_bytesInMemory wsX1_bytesInMemory ({ frames := 0, cells := 0, slots := 0, locals := 0 }) dC dI cI cJ [(r, .inr (2, [.ref qi, .ref qs, .ref qk, .ref qt, .int last, .int used, .int lod, .int uod])), (qi, .inr (1, [.ref ai])), (ai, .inl (cI, N, .inl fi)), (qs, .inr (1, [.ref aS])), (aS, .inl (cI, K, .inl fs)), (qk, .inr (1, [.ref ak])), (ak, .inl (cI, 6, .inl fk)), (qt, .inr (1, [.ref aT])), (aT, .inl (cI, 8, .inl ft))] [.ref r] (used - uod) := by
  refine Met.ofW (cc := cX1_bytesInMemory) (maxL := 1) (ret := (some .int)) (by decide) rfl ?_
  intro p e s m args below meth c s₁ B hml hv
  obtain ⟨rfl, hP, hK⟩ := hv
  have hx := B.exec
  have hb := B.bytes
  have hr := B.returns
  have hts := atoms_spec (ws := wsX1_bytesInMemory) B.pre
  have hown : s.vm.findClass RX1 = some m.cls := findClass_of_methodNamed B.named
  have hlocks := B.notSynchronized
  have inX1 : ∀ w ∈ wsX10, w ∈ wsX1_bytesInMemory := fun w h => (List.mem_cons_of_mem _ (List.mem_append_right _ h))
  have fl47 := hts (.fieldLink RX1 47 "StockLog$Rows" "used" "I") (by decide +kernel)
  have fl50 := hts (.fieldLink RX1 50 "StockLog$Rows" "usedOnDisk" "I") (by decide +kernel)
  have hl := lv_entry ([.ref r]) (n := 1) (Nat.le_of_ble_eq_true rfl)
  rw [lg_entry_eq]
  generalize (lg_sl ([.ref r]) ++ List.replicate (1 - (lg_sl ([.ref r])).length) Slot.unset).toArray = ls at hl ⊢
  have hl : lv_has ls 1 [(0, .ref r)] := hl
  refine lv_aload_n hx hb dX1_bytesInMemory_0 rfl (lv_at hl 0 rfl) ?_
  refine k_get (ci := 2) (T := TX1) (N := 8) (C := RX1) hx hb hts inX1 hown hK hP 0 rfl rfl 5 (by decide) fl47 rfl rfl dX1_bytesInMemory_1 ?_
  refine lv_aload_n hx hb dX1_bytesInMemory_4 rfl (lv_at hl 0 rfl) ?_
  refine k_get (ci := 2) (T := TX1) (N := 8) (C := RX1) hx hb hts inX1 hown hK hP 0 rfl rfl 7 (by decide) fl50 rfl rfl dX1_bytesInMemory_5 ?_
  refine lv_isub hx hb dX1_bytesInMemory_8 ?_
  exact k_iretP (ret := none) hx hb hr hlocks rfl rfl dX1_bytesInMemory_9
end
section
set_option maxHeartbeats 4000000 in
set_option maxRecDepth 100000 in
theorem m_X1_enlistNext (l : Launch) (dC : Nat → ClassId) (dI : Nat → Nat → Nat) (cI cJ : ClassId) (r : Nat) (qi : Nat) (ai : Nat) (qs : Nat) (aS : Nat) (qk : Nat) (ak : Nat) (qt : Nat) (aT : Nat) (N : Nat) (K : Nat) (fi : Nat → Int32) (fs : Nat → Int32) (fk : Nat → Int32) (ft : Nat → Int32) (last : Int32) (used : Int32) (lod : Int32) (uod : Int32) (hN : N < 2 ^ 31) (hK9 : K < 2 ^ 31) : cW l yX1_enlistNext wsX1_enlistNext ({ frames := 2, cells := 0, slots := 0, locals := 42 }) dC dI cI cJ [(r, .inr (2, [.ref qi, .ref qs, .ref qk, .ref qt, .int last, .int used, .int lod, .int uod])), (qi, .inr (1, [.ref ai])), (ai, .inl (cI, N, .inl fi)), (qs, .inr (1, [.ref aS])), (aS, .inl (cI, K, .inl fs)), (qk, .inr (1, [.ref ak])), (ak, .inl (cI, 6, .inl fk)), (qt, .inr (1, [.ref aT])), (aT, .inl (cI, 8, .inl ft))] [(r, .inr (2, [.ref qi, .ref qs, .ref qk, .ref qt, .int (last + 1), .int (rw_enU N K fi fs last used), .int lod, .int uod])), (qi, .inr (1, [.ref ai])), (ai, .inl (cI, N, .inl fi)), (qs, .inr (1, [.ref aS])), (aS, .inl (cI, K, .inl (rw_enS K fs last used))), (qk, .inr (1, [.ref ak])), (ak, .inl (cI, 6, .inl (rw_enK N K fi fs fk last used))), (qt, .inr (1, [.ref aT])), (aT, .inl (cI, 8, .inl ft))] [r, qi, ai, qs, aS, qk, ak, qt, aT] [.ref r] none := by
  refine Met.ofW (cc := cX1_enlistNext) (maxL := 2) (ret := none) (by decide) rfl ?_
  intro p e s m args below meth c s₁ B hml hv
  obtain ⟨rfl, hP, hK, hD0⟩ := hv
  have hx := B.exec
  have hb := B.bytes
  have hr := B.returns
  have hts := atoms_spec (ws := wsX1_enlistNext) B.pre
  have hown : s.vm.findClass RX1 = some m.cls := findClass_of_methodNamed B.named
  have hlocks := B.notSynchronized
  have inX1 : ∀ w ∈ wsX10, w ∈ wsX1_enlistNext := fun w h => (List.mem_cons_of_mem _ (List.mem_append_left _ (List.mem_append_right _ h)))
  have fl20 := hts (.fieldLink RX1 20 "StockLog$Rows" "starts" "LStockLog$Cells;") (by decide +kernel)
  have fl23 := hts (.fieldLink RX1 23 "StockLog$Rows" "ofKind" "LStockLog$Cells;") (by decide +kernel)
  have fl29 := hts (.fieldLink RX1 29 "StockLog$Rows" "last" "I") (by decide +kernel)
  have fl47 := hts (.fieldLink RX1 47 "StockLog$Rows" "used" "I") (by decide +kernel)
  have hD : va_D (mA [r, qi, ai, qs, aS, qk, ak, qt, aT]) [(r, .inr (2, [.ref qi, .ref qs, .ref qk, .ref qt, .int last, .int used, .int lod, .int uod])), (qi, .inr (1, [.ref ai])), (ai, .inl (cI, N, .inl fi)), (qs, .inr (1, [.ref aS])), (aS, .inl (cI, K, .inl fs)), (qk, .inr (1, [.ref ak])), (ak, .inl (cI, 6, .inl fk)), (qt, .inr (1, [.ref aT])), (aT, .inl (cI, 8, .inl ft))] := k_Dw hD0 rfl
  have hS : va_S (mA [r, qi, ai, qs, aS, qk, ak, qt, aT]) s.heap s.heap [] := va_S.rf
  have hl := lv_entry ([.ref r]) (n := 2) (Nat.le_of_ble_eq_true rfl)
  rw [lg_entry_eq]
  generalize (lg_sl ([.ref r]) ++ List.replicate (2 - (lg_sl ([.ref r])).length) Slot.unset).toArray = ls at hl ⊢
  have hl : lv_has ls 2 [(0, .ref r)] := hl
  refine lv_aload_n hx hb dX1_enlistNext_0 rfl (lv_at hl 0 rfl) ?_
  refine lv_dup hx hb dX1_enlistNext_1 rfl ?_
  refine k_get (ci := 2) (T := TX1) (N := 8) (C := RX1) hx hb hts inX1 hown hK hP 0 rfl rfl 4 (by decide) fl29 rfl rfl dX1_enlistNext_2 ?_
  refine lv_iconst (v := 1) hx hb dX1_enlistNext_5 (by decide) ?_
  refine lv_iadd hx hb dX1_enlistNext_6 ?_
  refine k_putf (ws' := [(r, .inr (2, [.ref qi, .ref qs, .ref qk, .ref qt, .int (last + 1), .int used, .int lod, .int uod])), (qi, .inr (1, [.ref ai])), (ai, .inl (cI, N, .inl fi)), (qs, .inr (1, [.ref aS])), (aS, .inl (cI, K, .inl fs)), (qk, .inr (1, [.ref ak])), (ak, .inl (cI, 6, .inl fk)), (qt, .inr (1, [.ref aT])), (aT, .inl (cI, 8, .inl ft))]) (ci := 2) (T := TX1) (N := 8) (C := RX1) (ty := .int) hx hb hts inX1 tyX1 tyX1_ok nmX1 hown hK hP hD hS 0 rfl rfl 4 (by decide) fl29 rfl rfl rfl rfl rfl (Nat.le_of_ble_eq_true rfl) dX1_enlistNext_7 rfl (fun H locs hP hD hS => ?_)
  refine lv_aload_n hx hb dX1_enlistNext_10 rfl (lv_at hl 0 rfl) ?_
  refine k_get (ci := 2) (T := TX1) (N := 8) (C := RX1) hx hb hts inX1 hown hK hP 0 rfl rfl 1 (by decide) fl20 rfl rfl dX1_enlistNext_11 ?_
  refine lv_aload_n hx hb dX1_enlistNext_14 rfl (lv_at hl 0 rfl) ?_
  refine k_get (ci := 2) (T := TX1) (N := 8) (C := RX1) hx hb hts inX1 hown hK hP 0 rfl rfl 4 (by decide) fl29 rfl rfl dX1_enlistNext_15 ?_
  refine lv_aload_n hx hb dX1_enlistNext_18 rfl (lv_at hl 0 rfl) ?_
  refine k_get (ci := 2) (T := TX1) (N := 8) (C := RX1) hx hb hts inX1 hown hK hP 0 rfl rfl 5 (by decide) fl47 rfl rfl dX1_enlistNext_19 ?_
  refine k_afW (wc := [(qs, .inr (1, [.ref aS])), (aS, .inl (cI, K, .inl fs))]) (ws' := [(r, .inr (2, [.ref qi, .ref qs, .ref qk, .ref qt, .int (last + 1), .int used, .int lod, .int uod])), (qi, .inr (1, [.ref ai])), (ai, .inl (cI, N, .inl fi)), (qs, .inr (1, [.ref aS])), (aS, .inl (cI, K, .inl (ca_set K fs (last + 1) used))), (qk, .inr (1, [.ref ak])), (ak, .inl (cI, 6, .inl fk)), (qt, .inr (1, [.ref aT])), (aT, .inl (cI, 8, .inl ft))]) (va_runV (rest := []) ⟨hx, hb, hml, hown, hts⟩ (m_X0_set l dC dI cI cJ qs aS K fs (last + 1) used (by first | assumption | decide)) (cwV 2 hts gX1_enlistNext_X0_set rfl rfl rfl hdv_X0_set ⟨Nat.le_of_ble_eq_true rfl, Nat.le_of_ble_eq_true rfl⟩) (k_preVW hK hP hD [3, 4] rfl rfl 3 rfl rfl) rfl rfl hl.1 rfl (lv_room (Nat.le_of_ble_eq_true rfl)) dX1_enlistNext_22 ⟨Nat.le_of_ble_eq_true rfl, Nat.le_of_ble_eq_true rfl⟩) hP hD hS [3, 4] rfl rfl rfl rfl (fun H locs hP hD hS => ?_)
  refine lv_aload_n hx hb dX1_enlistNext_25 rfl (lv_at hl 0 rfl) ?_
  refine lv_aload_n hx hb dX1_enlistNext_26 rfl (lv_at hl 0 rfl) ?_
  refine k_get (ci := 2) (T := TX1) (N := 8) (C := RX1) hx hb hts inX1 hown hK hP 0 rfl rfl 4 (by decide) fl29 rfl rfl dX1_enlistNext_27 ?_
  refine k_afP (va_runV (rest := []) ⟨hx, hb, hml, hown, hts⟩ (m_X1_kindOf l dC dI cI cJ r qi ai qs aS qk ak qt aT N K fi (ca_set K fs (last + 1) used) fk ft (last + 1) used lod uod (last + 1) (by first | assumption | decide) (by first | assumption | decide)) (cwV 1 hts gX1_enlistNext_X1_kindOf rfl rfl rfl hdv_X1_kindOf ⟨Nat.le_of_ble_eq_true rfl, Nat.le_of_ble_eq_true rfl⟩) (k_preVP hK hP [0, 1, 2, 3, 4, 5, 6, 7, 8] rfl 0 rfl rfl) rfl rfl hl.1 rfl (lv_room (Nat.le_of_ble_eq_true rfl)) dX1_enlistNext_30 ⟨Nat.le_of_ble_eq_true rfl, Nat.le_of_ble_eq_true rfl⟩) ?_
  refine lv_topi (fun v33 ev33 => ?_)
  refine lv_istore_n (lv' := [(1, .int v33), (0, .ref r)]) hx hb dX1_enlistNext_33 rfl hl (by decide) rfl (fun ls hl => ?_)
  refine lv_aload_n hx hb dX1_enlistNext_34 rfl (lv_at hl 1 rfl) ?_
  refine k_get (ci := 2) (T := TX1) (N := 8) (C := RX1) hx hb hts inX1 hown hK hP 0 rfl rfl 2 (by decide) fl23 rfl rfl dX1_enlistNext_35 ?_
  refine lv_iload_n hx hb dX1_enlistNext_38 rfl (lv_at hl 0 rfl) ?_
  refine lv_aload_n hx hb dX1_enlistNext_39 rfl (lv_at hl 1 rfl) ?_
  refine k_get (ci := 2) (T := TX1) (N := 8) (C := RX1) hx hb hts inX1 hown hK hP 0 rfl rfl 2 (by decide) fl23 rfl rfl dX1_enlistNext_40 ?_
  refine lv_iload_n hx hb dX1_enlistNext_43 rfl (lv_at hl 0 rfl) ?_
  refine k_afP (va_runV (rest := [.int v33, .ref qk]) ⟨hx, hb, hml, hown, hts⟩ (m_X0_at l dC dI cI cJ qk ak 6 fk v33 (by first | assumption | decide)) (cwV 1 hts gX1_enlistNext_X0_at rfl rfl rfl hdv_X0_at ⟨Nat.le_of_ble_eq_true rfl, Nat.le_of_ble_eq_true rfl⟩) (k_preVP hK hP [5, 6] rfl 5 rfl rfl) rfl rfl hl.1 rfl (lv_room (Nat.le_of_ble_eq_true rfl)) dX1_enlistNext_44 ⟨Nat.le_of_ble_eq_true rfl, Nat.le_of_ble_eq_true rfl⟩) ?_
  refine lv_iconst (v := 1) hx hb dX1_enlistNext_47 (by decide) ?_
  refine lv_iadd hx hb dX1_enlistNext_48 ?_
  refine k_afW (wc := [(qk, .inr (1, [.ref ak])), (ak, .inl (cI, 6, .inl fk))]) (ws' := [(r, .inr (2, [.ref qi, .ref qs, .ref qk, .ref qt, .int (last + 1), .int used, .int lod, .int uod])), (qi, .inr (1, [.ref ai])), (ai, .inl (cI, N, .inl fi)), (qs, .inr (1, [.ref aS])), (aS, .inl (cI, K, .inl (ca_set K fs (last + 1) used))), (qk, .inr (1, [.ref ak])), (ak, .inl (cI, 6, .inl (ca_set 6 fk v33 ((ca_at 6 fk v33) + 1)))), (qt, .inr (1, [.ref aT])), (aT, .inl (cI, 8, .inl ft))]) (va_runV (rest := []) ⟨hx, hb, hml, hown, hts⟩ (m_X0_set l dC dI cI cJ qk ak 6 fk v33 ((ca_at 6 fk v33) + 1) (by first | assumption | decide)) (cwV 2 hts gX1_enlistNext_X0_set rfl rfl rfl hdv_X0_set ⟨Nat.le_of_ble_eq_true rfl, Nat.le_of_ble_eq_true rfl⟩) (k_preVW hK hP hD [5, 6] rfl rfl 5 rfl rfl) rfl rfl hl.1 rfl (lv_room (Nat.le_of_ble_eq_true rfl)) dX1_enlistNext_49 ⟨Nat.le_of_ble_eq_true rfl, Nat.le_of_ble_eq_true rfl⟩) hP hD hS [5, 6] rfl rfl rfl rfl (fun H locs hP hD hS => ?_)
  refine lv_aload_n hx hb dX1_enlistNext_52 rfl (lv_at hl 1 rfl) ?_
  refine lv_dup hx hb dX1_enlistNext_53 rfl ?_
  refine k_get (ci := 2) (T := TX1) (N := 8) (C := RX1) hx hb hts inX1 hown hK hP 0 rfl rfl 5 (by decide) fl47 rfl rfl dX1_enlistNext_54 ?_
  refine lv_bipush (v := 9) hx hb dX1_enlistNext_57 (by decide) ?_
  refine lv_aload_n hx hb dX1_enlistNext_59 rfl (lv_at hl 1 rfl) ?_
  refine lv_aload_n hx hb dX1_enlistNext_60 rfl (lv_at hl 1 rfl) ?_
  refine k_get (ci := 2) (T := TX1) (N := 8) (C := RX1) hx hb hts inX1 hown hK hP 0 rfl rfl 4 (by decide) fl29 rfl rfl dX1_enlistNext_61 ?_
  refine k_afP (va_runV (rest := [.int 9, .int used, .ref r]) ⟨hx, hb, hml, hown, hts⟩ (m_X1_lengthOf l dC dI cI cJ r qi ai qs aS qk ak qt aT N K fi (ca_set K fs (last + 1) used) (ca_set 6 fk v33 ((ca_at 6 fk v33) + 1)) ft (last + 1) used lod uod (last + 1) (by first | assumption | decide) (by first | assumption | decide)) (cwV 1 hts gX1_enlistNext_X1_lengthOf rfl rfl rfl hdv_X1_lengthOf ⟨Nat.le_of_ble_eq_true rfl, Nat.le_of_ble_eq_true rfl⟩) (k_preVP hK hP [0, 1, 2, 3, 4, 5, 6, 7, 8] rfl 0 rfl rfl) rfl rfl hl.1 rfl (lv_room (Nat.le_of_ble_eq_true rfl)) dX1_enlistNext_64 ⟨Nat.le_of_ble_eq_true rfl, Nat.le_of_ble_eq_true rfl⟩) ?_
  refine lv_iadd hx hb dX1_enlistNext_67 ?_
  refine lv_iadd hx hb dX1_enlistNext_68 ?_
  refine lv_topi (fun w69_0 ew69_0 => ?_)
  refine k_putf (ws' := [(r, .inr (2, [.ref qi, .ref qs, .ref qk, .ref qt, .int (last + 1), .int w69_0, .int lod, .int uod])), (qi, .inr (1, [.ref ai])), (ai, .inl (cI, N, .inl fi)), (qs, .inr (1, [.ref aS])), (aS, .inl (cI, K, .inl (ca_set K fs (last + 1) used))), (qk, .inr (1, [.ref ak])), (ak, .inl (cI, 6, .inl (ca_set 6 fk v33 ((ca_at 6 fk v33) + 1)))), (qt, .inr (1, [.ref aT])), (aT, .inl (cI, 8, .inl ft))]) (ci := 2) (T := TX1) (N := 8) (C := RX1) (ty := .int) hx hb hts inX1 tyX1 tyX1_ok nmX1 hown hK hP hD hS 0 rfl rfl 5 (by decide) fl47 rfl rfl rfl rfl rfl (Nat.le_of_ble_eq_true rfl) dX1_enlistNext_69 rfl (fun H locs hP hD hS => ?_)
  exact k_vretW hx hb hr hlocks hP hS (by rw [ev33]; rw [ew69_0]; rfl) dX1_enlistNext_72
set_option maxHeartbeats 4000000 in
set_option maxRecDepth 100000 in
theorem m_X1_write (l : Launch) (dC : Nat → ClassId) (dI : Nat → Nat → Nat) (cI cJ : ClassId) (r : Nat) (qi : Nat) (ai : Nat) (qs : Nat) (aS : Nat) (qk : Nat) (ak : Nat) (qt : Nat) (aT : Nat) (N : Nat) (K : Nat) (fi : Nat → Int32) (fs : Nat → Int32) (fk : Nat → Int32) (ft : Nat → Int32) (last : Int32) (used : Int32) (lod : Int32) (uod : Int32) (hb9 : Nat) (ab : Nat) (M : Nat) (g : Nat → Int32) (kind : Int32) (length : Int32) (hN : N < 2 ^ 31) (hK9 : K < 2 ^ 31) (hM : M < 2 ^ 31) : cW l yX1_write wsX1_write ({ frames := 3, cells := 0, slots := 0, locals := 63 }) dC dI cI cJ [(r, .inr (2, [.ref qi, .ref qs, .ref qk, .ref qt, .int last, .int used, .int lod, .int uod])), (qi, .inr (1, [.ref ai])), (ai, .inl (cI, N, .inl fi)), (qs, .inr (1, [.ref aS])), (aS, .inl (cI, K, .inl fs)), (qk, .inr (1, [.ref ak])), (ak, .inl (cI, 6, .inl fk)), (qt, .inr (1, [.ref aT])), (aT, .inl (cI, 8, .inl ft)), (hb9, .inr (1, [.ref ab])), (ab, .inl (cI, M, .inl g))] [(r, .inr (2, [.ref qi, .ref qs, .ref qk, .ref qt, .int (last + 1), .int (rw_enU N K (rw_image N fi used last kind length M g) fs last used), .int lod, .int uod])), (qi, .inr (1, [.ref ai])), (ai, .inl (cI, N, .inl (rw_image N fi used last kind length M g))), (qs, .inr (1, [.ref aS])), (aS, .inl (cI, K, .inl (rw_enS K fs last used))), (qk, .inr (1, [.ref ak])), (ak, .inl (cI, 6, .inl (rw_enK N K (rw_image N fi used last kind length M g) fs fk last used))), (qt, .inr (1, [.ref aT])), (aT, .inl (cI, 8, .inl ft)), (hb9, .inr (1, [.ref ab])), (ab, .inl (cI, M, .inl g))] [r, qi, ai, qs, aS, qk, ak, qt, aT, hb9, ab] [.ref r, .int kind, .ref hb9, .int length] (some (.int (last + 1))) := by
  refine Met.ofW (cc := cX1_write) (maxL := 5) (ret := (some .int)) (by decide) rfl ?_
  intro p e s m args below meth c s₁ B hml hv
  obtain ⟨rfl, hP, hK, hD0⟩ := hv
  have hx := B.exec
  have hb := B.bytes
  have hr := B.returns
  have hts := atoms_spec (ws := wsX1_write) B.pre
  have hown : s.vm.findClass RX1 = some m.cls := findClass_of_methodNamed B.named
  have hlocks := B.notSynchronized
  have inX1 : ∀ w ∈ wsX10, w ∈ wsX1_write := fun w h => (List.mem_cons_of_mem _ (List.mem_append_left _ (List.mem_append_right _ h)))
  have fl14 := hts (.fieldLink RX1 14 "StockLog$Rows" "image" "LStockLog$Cells;") (by decide +kernel)
  have fl29 := hts (.fieldLink RX1 29 "StockLog$Rows" "last" "I") (by decide +kernel)
  have fl47 := hts (.fieldLink RX1 47 "StockLog$Rows" "used" "I") (by decide +kernel)
  have hD : va_D (mA [r, qi, ai, qs, aS, qk, ak, qt, aT, hb9, ab]) [(r, .inr (2, [.ref qi, .ref qs, .ref qk, .ref qt, .int last, .int used, .int lod, .int uod])), (qi, .inr (1, [.ref ai])), (ai, .inl (cI, N, .inl fi)), (qs, .inr (1, [.ref aS])), (aS, .inl (cI, K, .inl fs)), (qk, .inr (1, [.ref ak])), (ak, .inl (cI, 6, .inl fk)), (qt, .inr (1, [.ref aT])), (aT, .inl (cI, 8, .inl ft)), (hb9, .inr (1, [.ref ab])), (ab, .inl (cI, M, .inl g))] := k_Dw hD0 rfl
  have hS : va_S (mA [r, qi, ai, qs, aS, qk, ak, qt, aT, hb9, ab]) s.heap s.heap [] := va_S.rf
  have hl := lv_entry ([.ref r, .int kind, .ref hb9, .int length]) (n := 5) (Nat.le_of_ble_eq_true rfl)
  rw [lg_entry_eq]
  generalize (lg_sl ([.ref r, .int kind, .ref hb9, .int length]) ++ List.replicate (5 - (lg_sl ([.ref r, .int kind, .ref hb9, .int length])).length) Slot.unset).toArray = ls at hl ⊢
  have hl : lv_has ls 5 [(0, .ref r), (1, .int kind), (2, .ref hb9), (3, .int length)] := hl
  refine lv_aload_n hx hb dX1_write_0 rfl (lv_at hl 0 rfl) ?_
  refine k_get (ci := 2) (T := TX1) (N := 8) (C := RX1) hx hb hts inX1 hown hK hP 0 rfl rfl 0 (by decide) fl14 rfl rfl dX1_write_1 ?_
  refine lv_aload_n hx hb dX1_write_4 rfl (lv_at hl 0 rfl) ?_
  refine k_get (ci := 2) (T := TX1) (N := 8) (C := RX1) hx hb hts inX1 hown hK hP 0 rfl rfl 5 (by decide) fl47 rfl rfl dX1_write_5 ?_
  refine lv_bipush (v := 90) hx hb dX1_write_8 (by decide) ?_
  refine k_afW (wc := [(qi, .inr (1, [.ref ai])), (ai, .inl (cI, N, .inl fi))]) (ws' := [(r, .inr (2, [.ref qi, .ref qs, .ref qk, .ref qt, .int last, .int used, .int lod, .int uod])), (qi, .inr (1, [.ref ai])), (ai, .inl (cI, N, .inl (ca_set N fi used 90))), (qs, .inr (1, [.ref aS])), (aS, .inl (cI, K, .inl fs)), (qk, .inr (1, [.ref ak])), (ak, .inl (cI, 6, .inl fk)), (qt, .inr (1, [.ref aT])), (aT, .inl (cI, 8, .inl ft)), (hb9, .inr (1, [.ref ab])), (ab, .inl (cI, M, .inl g))]) (va_runV (rest := []) ⟨hx, hb, hml, hown, hts⟩ (m_X0_set l dC dI cI cJ qi ai N fi used 90 (by first | assumption | decide)) (cwV 2 hts gX1_write_X0_set rfl rfl rfl hdv_X0_set ⟨Nat.le_of_ble_eq_true rfl, Nat.le_of_ble_eq_true rfl⟩) (k_preVW hK hP hD [1, 2] rfl rfl 1 rfl rfl) rfl rfl hl.1 rfl (lv_room (Nat.le_of_ble_eq_true rfl)) dX1_write_10 ⟨Nat.le_of_ble_eq_true rfl, Nat.le_of_ble_eq_true rfl⟩) hP hD hS [1, 2] rfl rfl rfl rfl (fun H locs hP hD hS => ?_)
  refine lv_aload_n hx hb dX1_write_13 rfl (lv_at hl 0 rfl) ?_
  refine k_get (ci := 2) (T := TX1) (N := 8) (C := RX1) hx hb hts inX1 hown hK hP 0 rfl rfl 0 (by decide) fl14 rfl rfl dX1_write_14 ?_
  refine lv_aload_n hx hb dX1_write_17 rfl (lv_at hl 0 rfl) ?_
  refine k_get (ci := 2) (T := TX1) (N := 8) (C := RX1) hx hb hts inX1 hown hK hP 0 rfl rfl 5 (by decide) fl47 rfl rfl dX1_write_18 ?_
  refine lv_iconst (v := 1) hx hb dX1_write_21 (by decide) ?_
  refine lv_iadd hx hb dX1_write_22 ?_
  refine lv_iload_n hx hb dX1_write_23 rfl (lv_at hl 1 rfl) ?_
  refine k_afW (wc := [(qi, .inr (1, [.ref ai])), (ai, .inl (cI, N, .inl (ca_set N fi used 90)))]) (ws' := [(r, .inr (2, [.ref qi, .ref qs, .ref qk, .ref qt, .int last, .int used, .int lod, .int uod])), (qi, .inr (1, [.ref ai])), (ai, .inl (cI, N, .inl (ca_set N (ca_set N fi used 90) (used + 1) kind))), (qs, .inr (1, [.ref aS])), (aS, .inl (cI, K, .inl fs)), (qk, .inr (1, [.ref ak])), (ak, .inl (cI, 6, .inl fk)), (qt, .inr (1, [.ref aT])), (aT, .inl (cI, 8, .inl ft)), (hb9, .inr (1, [.ref ab])), (ab, .inl (cI, M, .inl g))]) (va_runV (rest := []) ⟨hx, hb, hml, hown, hts⟩ (m_X0_set l dC dI cI cJ qi ai N (ca_set N fi used 90) (used + 1) kind (by first | assumption | decide)) (cwV 2 hts gX1_write_X0_set rfl rfl rfl hdv_X0_set ⟨Nat.le_of_ble_eq_true rfl, Nat.le_of_ble_eq_true rfl⟩) (k_preVW hK hP hD [1, 2] rfl rfl 1 rfl rfl) rfl rfl hl.1 rfl (lv_room (Nat.le_of_ble_eq_true rfl)) dX1_write_24 ⟨Nat.le_of_ble_eq_true rfl, Nat.le_of_ble_eq_true rfl⟩) hP hD hS [1, 2] rfl rfl rfl rfl (fun H locs hP hD hS => ?_)
  refine lv_aload_n hx hb dX1_write_27 rfl (lv_at hl 0 rfl) ?_
  refine k_get (ci := 2) (T := TX1) (N := 8) (C := RX1) hx hb hts inX1 hown hK hP 0 rfl rfl 0 (by decide) fl14 rfl rfl dX1_write_28 ?_
  refine lv_aload_n hx hb dX1_write_31 rfl (lv_at hl 0 rfl) ?_
  refine k_get (ci := 2) (T := TX1) (N := 8) (C := RX1) hx hb hts inX1 hown hK hP 0 rfl rfl 5 (by decide) fl47 rfl rfl dX1_write_32 ?_
  refine lv_iconst (v := 2) hx hb dX1_write_35 (by decide) ?_
  refine lv_iadd hx hb dX1_write_36 ?_
  refine lv_iconst (v := 2) hx hb dX1_write_37 (by decide) ?_
  refine lv_aload_n hx hb dX1_write_38 rfl (lv_at hl 0 rfl) ?_
  refine k_get (ci := 2) (T := TX1) (N := 8) (C := RX1) hx hb hts inX1 hown hK hP 0 rfl rfl 4 (by decide) fl29 rfl rfl dX1_write_39 ?_
  refine lv_iconst (v := 1) hx hb dX1_write_42 (by decide) ?_
  refine lv_iadd hx hb dX1_write_43 ?_
  refine k_afW (wc := [(qi, .inr (1, [.ref ai])), (ai, .inl (cI, N, .inl (ca_set N (ca_set N fi used 90) (used + 1) kind)))]) (ws' := [(r, .inr (2, [.ref qi, .ref qs, .ref qk, .ref qt, .int last, .int used, .int lod, .int uod])), (qi, .inr (1, [.ref ai])), (ai, .inl (cI, N, .inl (ca_setNum N (ca_set N (ca_set N fi used 90) (used + 1) kind) (used + 2) 2 (last + 1)))), (qs, .inr (1, [.ref aS])), (aS, .inl (cI, K, .inl fs)), (qk, .inr (1, [.ref ak])), (ak, .inl (cI, 6, .inl fk)), (qt, .inr (1, [.ref aT])), (aT, .inl (cI, 8, .inl ft)), (hb9, .inr (1, [.ref ab])), (ab, .inl (cI, M, .inl g))]) (va_runV (rest := []) ⟨hx, hb, hml, hown, hts⟩ (m_X0_setNumber l dC dI cI cJ qi ai N (ca_set N (ca_set N fi used 90) (used + 1) kind) (used + 2) 2 (last + 1) (by first | assumption | decide)) (cwV 3 hts gX1_write_X0_setNumber rfl rfl rfl hdv_X0_setNumber ⟨Nat.le_of_ble_eq_true rfl, Nat.le_of_ble_eq_true rfl⟩) (k_preVW hK hP hD [1, 2] rfl rfl 1 rfl rfl) rfl rfl hl.1 rfl (lv_room (Nat.le_of_ble_eq_true rfl)) dX1_write_44 ⟨Nat.le_of_ble_eq_true rfl, Nat.le_of_ble_eq_true rfl⟩) hP hD hS [1, 2] rfl rfl rfl rfl (fun H locs hP hD hS => ?_)
  refine lv_aload_n hx hb dX1_write_47 rfl (lv_at hl 0 rfl) ?_
  refine k_get (ci := 2) (T := TX1) (N := 8) (C := RX1) hx hb hts inX1 hown hK hP 0 rfl rfl 0 (by decide) fl14 rfl rfl dX1_write_48 ?_
  refine lv_aload_n hx hb dX1_write_51 rfl (lv_at hl 0 rfl) ?_
  refine k_get (ci := 2) (T := TX1) (N := 8) (C := RX1) hx hb hts inX1 hown hK hP 0 rfl rfl 5 (by decide) fl47 rfl rfl dX1_write_52 ?_
  refine lv_iconst (v := 4) hx hb dX1_write_55 (by decide) ?_
  refine lv_iadd hx hb dX1_write_56 ?_
  refine lv_iload_n hx hb dX1_write_57 rfl (lv_at hl 3 rfl) ?_
  refine k_afW (wc := [(qi, .inr (1, [.ref ai])), (ai, .inl (cI, N, .inl (ca_setNum N (ca_set N (ca_set N fi used 90) (used + 1) kind) (used + 2) 2 (last + 1))))]) (ws' := [(r, .inr (2, [.ref qi, .ref qs, .ref qk, .ref qt, .int last, .int used, .int lod, .int uod])), (qi, .inr (1, [.ref ai])), (ai, .inl (cI, N, .inl (ca_set N (ca_setNum N (ca_set N (ca_set N fi used 90) (used + 1) kind) (used + 2) 2 (last + 1)) (used + 4) length))), (qs, .inr (1, [.ref aS])), (aS, .inl (cI, K, .inl fs)), (qk, .inr (1, [.ref ak])), (ak, .inl (cI, 6, .inl fk)), (qt, .inr (1, [.ref aT])), (aT, .inl (cI, 8, .inl ft)), (hb9, .inr (1, [.ref ab])), (ab, .inl (cI, M, .inl g))]) (va_runV (rest := []) ⟨hx, hb, hml, hown, hts⟩ (m_X0_set l dC dI cI cJ qi ai N (ca_setNum N (ca_set N (ca_set N fi used 90) (used + 1) kind) (used + 2) 2 (last + 1)) (used + 4) length (by first | assumption | decide)) (cwV 2 hts gX1_write_X0_set rfl rfl rfl hdv_X0_set ⟨Nat.le_of_ble_eq_true rfl, Nat.le_of_ble_eq_true rfl⟩) (k_preVW hK hP hD [1, 2] rfl rfl 1 rfl rfl) rfl rfl hl.1 rfl (lv_room (Nat.le_of_ble_eq_true rfl)) dX1_write_58 ⟨Nat.le_of_ble_eq_true rfl, Nat.le_of_ble_eq_true rfl⟩) hP hD hS [1, 2] rfl rfl rfl rfl (fun H locs hP hD hS => ?_)
  refine lv_iconst (v := 0) hx hb dX1_write_61 (by decide) ?_
  refine lv_istore (lv' := [(4, .int 0), (0, .ref r), (1, .int kind), (2, .ref hb9), (3, .int length)]) hx hb dX1_write_62 hl (by decide) rfl (fun ls hl => ?_)
  have loop64 : ∀ (n : Nat) (i : Int32) (x : Nat → Int32) (H : Heap) (locs : List Loc) (ls : Array Slot), (loopE length (fun i (x : Nat → Int32) => (.inl (ca_set N x ((used + 5) + i) (ca_at M g i)) : (Nat → Int32) ⊕ (Nat → Int32))) id i x = rw_body N (rw_img N fi used last kind length) M g used length) → (length.toInt - i.toInt).toNat < n → va_P (dC, dI) vwCl [(r, .inr (2, [.ref qi, .ref qs, .ref qk, .ref qt, .int last, .int used, .int lod, .int uod])), (qi, .inr (1, [.ref ai])), (ai, .inl (cI, N, .inl x)), (qs, .inr (1, [.ref aS])), (aS, .inl (cI, K, .inl fs)), (qk, .inr (1, [.ref ak])), (ak, .inl (cI, 6, .inl fk)), (qt, .inr (1, [.ref aT])), (aT, .inl (cI, 8, .inl ft)), (hb9, .inr (1, [.ref ab])), (ab, .inl (cI, M, .inl g))] H → va_D (mA [r, qi, ai, qs, aS, qk, ak, qt, aT, hb9, ab]) [(r, .inr (2, [.ref qi, .ref qs, .ref qk, .ref qt, .int last, .int used, .int lod, .int uod])), (qi, .inr (1, [.ref ai])), (ai, .inl (cI, N, .inl x)), (qs, .inr (1, [.ref aS])), (aS, .inl (cI, K, .inl fs)), (qk, .inr (1, [.ref ak])), (ak, .inl (cI, 6, .inl fk)), (qt, .inr (1, [.ref aT])), (aT, .inl (cI, 8, .inl ft)), (hb9, .inr (1, [.ref ab])), (ab, .inl (cI, M, .inl g))] → va_S (mA [r, qi, ai, qs, aS, qk, ak, qt, aT, hb9, ab]) s.heap H locs → lv_has ls 5 [(4, .int i), (0, .ref r), (1, .int kind), (2, .ref hb9), (3, .int length)] → W p l e (headSpec wsX1_write ({ frames := 3, cells := 0, slots := 0, locals := 63 })).room s m ([.ref r, .int kind, .ref hb9, .int length] : List Value).toArray below meth c H locs 0 0 (MQ below (mQ dC dI [(r, .inr (2, [.ref qi, .ref qs, .ref qk, .ref qt, .int (last + 1), .int (rw_enU N K (rw_image N fi used last kind length M g) fs last used), .int lod, .int uod])), (qi, .inr (1, [.ref ai])), (ai, .inl (cI, N, .inl (rw_image N fi used last kind length M g))), (qs, .inr (1, [.ref aS])), (aS, .inl (cI, K, .inl (rw_enS K fs last used))), (qk, .inr (1, [.ref ak])), (ak, .inl (cI, 6, .inl (rw_enK N K (rw_image N fi used last kind length M g) fs fk last used))), (qt, .inr (1, [.ref aT])), (aT, .inl (cI, 8, .inl ft)), (hb9, .inr (1, [.ref ab])), (ab, .inl (cI, M, .inl g))] [r, qi, ai, qs, aS, qk, ak, qt, aT, hb9, ab] (some (.int (last + 1)))) ([.ref r, .int kind, .ref hb9, .int length] : List Value).toArray s 0 0 (mA [r, qi, ai, qs, aS, qk, ak, qt, aT, hb9, ab])) (F0 m 64 ls []) := by
    intro n
    induction n with
    | zero => intro i x H locs ls hi hm; exact absurd hm (Nat.not_lt_zero _)
    | succ n ih =>
      intro i x H locs ls hi hm hP hD hS hl
      refine lv_iload hx hb dX1_write_64 (lv_at hl 0 rfl) ?_
      refine lv_iload_n hx hb dX1_write_66 rfl (lv_at hl 4 rfl) ?_
      refine lv_icmp_ge (tgt := 98) hx hb dX1_write_67 (by decide) (fun c1 => ?_) (fun c1 => ?_)
      · refine lv_aload_n hx hb dX1_write_98 rfl (lv_at hl 1 rfl) ?_
        refine k_get (ci := 2) (T := TX1) (N := 8) (C := RX1) hx hb hts inX1 hown hK hP 0 rfl rfl 0 (by decide) fl14 rfl rfl dX1_write_99 ?_
        refine lv_aload_n hx hb dX1_write_102 rfl (lv_at hl 1 rfl) ?_
        refine k_get (ci := 2) (T := TX1) (N := 8) (C := RX1) hx hb hts inX1 hown hK hP 0 rfl rfl 5 (by decide) fl47 rfl rfl dX1_write_103 ?_
        refine lv_iconst (v := 5) hx hb dX1_write_106 (by decide) ?_
        refine lv_iadd hx hb dX1_write_107 ?_
        refine lv_iload_n hx hb dX1_write_108 rfl (lv_at hl 4 rfl) ?_
        refine lv_iadd hx hb dX1_write_109 ?_
        refine lv_iconst (v := 4) hx hb dX1_write_110 (by decide) ?_
        refine lv_aload_n hx hb dX1_write_111 rfl (lv_at hl 1 rfl) ?_
        refine k_get (ci := 2) (T := TX1) (N := 8) (C := RX1) hx hb hts inX1 hown hK hP 0 rfl rfl 0 (by decide) fl14 rfl rfl dX1_write_112 ?_
        refine lv_aload_n hx hb dX1_write_115 rfl (lv_at hl 1 rfl) ?_
        refine k_get (ci := 2) (T := TX1) (N := 8) (C := RX1) hx hb hts inX1 hown hK hP 0 rfl rfl 5 (by decide) fl47 rfl rfl dX1_write_116 ?_
        refine lv_iload_n hx hb dX1_write_119 rfl (lv_at hl 4 rfl) ?_
        refine k_afP (va_runSN (host := "StockLog") (rest := [.int 4, .int ((used + 5) + length), .ref qi]) ⟨hx, hb, hml, hown, hts⟩ (m_X2_sumOfRow l dC dI cI cJ qi ai N x used length (by first | assumption | decide)) ⟨va_cnB 3 hts ggX1_write_X2_sumOfRow rfl rfl rfl (hK.2.2 (RX1, 61, yX2_sumOfRow, "StockLog") (by decide +kernel)) (hts (.initialized RX2) (by decide +kernel)) hdn_X2_sumOfRow ⟨Nat.le_of_ble_eq_true rfl, Nat.le_of_ble_eq_true rfl⟩, hts (.static yX2_sumOfRow) (by decide +kernel), trivial⟩ (k_preSP hK hP [1, 2] rfl) rfl rfl hl.1 rfl (lv_room (Nat.le_of_ble_eq_true rfl)) dX1_write_120 ⟨Nat.le_of_ble_eq_true rfl, Nat.le_of_ble_eq_true rfl⟩) ?_
        refine k_afW (wc := [(qi, .inr (1, [.ref ai])), (ai, .inl (cI, N, .inl x))]) (ws' := [(r, .inr (2, [.ref qi, .ref qs, .ref qk, .ref qt, .int last, .int used, .int lod, .int uod])), (qi, .inr (1, [.ref ai])), (ai, .inl (cI, N, .inl (ca_setNum N x ((used + 5) + length) 4 (sl_sum N x used length)))), (qs, .inr (1, [.ref aS])), (aS, .inl (cI, K, .inl fs)), (qk, .inr (1, [.ref ak])), (ak, .inl (cI, 6, .inl fk)), (qt, .inr (1, [.ref aT])), (aT, .inl (cI, 8, .inl ft)), (hb9, .inr (1, [.ref ab])), (ab, .inl (cI, M, .inl g))]) (va_runV (rest := []) ⟨hx, hb, hml, hown, hts⟩ (m_X0_setNumber l dC dI cI cJ qi ai N x ((used + 5) + length) 4 (sl_sum N x used length) (by first | assumption | decide)) (cwV 3 hts gX1_write_X0_setNumber rfl rfl rfl hdv_X0_setNumber ⟨Nat.le_of_ble_eq_true rfl, Nat.le_of_ble_eq_true rfl⟩) (k_preVW hK hP hD [1, 2] rfl rfl 1 rfl rfl) rfl rfl hl.1 rfl (lv_room (Nat.le_of_ble_eq_true rfl)) dX1_write_123 ⟨Nat.le_of_ble_eq_true rfl, Nat.le_of_ble_eq_true rfl⟩) hP hD hS [1, 2] rfl rfl rfl rfl (fun H locs hP hD hS => ?_)
        refine lv_aload_n hx hb dX1_write_126 rfl (lv_at hl 1 rfl) ?_
        refine k_afW (wc := [(r, .inr (2, [.ref qi, .ref qs, .ref qk, .ref qt, .int last, .int used, .int lod, .int uod])), (qi, .inr (1, [.ref ai])), (ai, .inl (cI, N, .inl (ca_setNum N x ((used + 5) + length) 4 (sl_sum N x used length)))), (qs, .inr (1, [.ref aS])), (aS, .inl (cI, K, .inl fs)), (qk, .inr (1, [.ref ak])), (ak, .inl (cI, 6, .inl fk)), (qt, .inr (1, [.ref aT])), (aT, .inl (cI, 8, .inl ft))]) (ws' := [(r, .inr (2, [.ref qi, .ref qs, .ref qk, .ref qt, .int (last + 1), .int (rw_enU N K (ca_setNum N x ((used + 5) + length) 4 (sl_sum N x used length)) fs last used), .int lod, .int uod])), (qi, .inr (1, [.ref ai])), (ai, .inl (cI, N, .inl (ca_setNum N x ((used + 5) + length) 4 (sl_sum N x used length)))), (qs, .inr (1, [.ref aS])), (aS, .inl (cI, K, .inl (rw_enS K fs last used))), (qk, .inr (1, [.ref ak])), (ak, .inl (cI, 6, .inl (rw_enK N K (ca_setNum N x ((used + 5) + length) 4 (sl_sum N x used length)) fs fk last used))), (qt, .inr (1, [.ref aT])), (aT, .inl (cI, 8, .inl ft)), (hb9, .inr (1, [.ref ab])), (ab, .inl (cI, M, .inl g))]) (va_runV (rest := []) ⟨hx, hb, hml, hown, hts⟩ (m_X1_enlistNext l dC dI cI cJ r qi ai qs aS qk ak qt aT N K (ca_setNum N x ((used + 5) + length) 4 (sl_sum N x used length)) fs fk ft last used lod uod (by first | assumption | decide) (by first | assumption | decide)) (cwV 0 hts gX1_write_X1_enlistNext rfl rfl rfl hdv_X1_enlistNext ⟨Nat.le_of_ble_eq_true rfl, Nat.le_of_ble_eq_true rfl⟩) (k_preVW hK hP hD [0, 1, 2, 3, 4, 5, 6, 7, 8] rfl rfl 0 rfl rfl) rfl rfl hl.1 rfl (lv_room (Nat.le_of_ble_eq_true rfl)) dX1_write_127 ⟨Nat.le_of_ble_eq_true rfl, Nat.le_of_ble_eq_true rfl⟩) hP hD hS [0, 1, 2, 3, 4, 5, 6, 7, 8] rfl rfl rfl rfl (fun H locs hP hD hS => ?_)
        refine lv_aload_n hx hb dX1_write_130 rfl (lv_at hl 1 rfl) ?_
        refine k_get (ci := 2) (T := TX1) (N := 8) (C := RX1) hx hb hts inX1 hown hK hP 0 rfl rfl 4 (by decide) fl29 rfl rfl dX1_write_131 ?_
        exact k_iretW hx hb hr hlocks hP hS rfl (by have hi2 : x = rw_body N (rw_img N fi used last kind length) M g used length := (by rw [← hi, loopE_exit c1]; rfl); subst hi2; rfl) dX1_write_134
      · refine lv_aload_n hx hb dX1_write_70 rfl (lv_at hl 1 rfl) ?_
        refine k_get (ci := 2) (T := TX1) (N := 8) (C := RX1) hx hb hts inX1 hown hK hP 0 rfl rfl 0 (by decide) fl14 rfl rfl dX1_write_71 ?_
        refine lv_aload_n hx hb dX1_write_74 rfl (lv_at hl 1 rfl) ?_
        refine k_get (ci := 2) (T := TX1) (N := 8) (C := RX1) hx hb hts inX1 hown hK hP 0 rfl rfl 5 (by decide) fl47 rfl rfl dX1_write_75 ?_
        refine lv_iconst (v := 5) hx hb dX1_write_78 (by decide) ?_
        refine lv_iadd hx hb dX1_write_79 ?_
        refine lv_iload hx hb dX1_write_80 (lv_at hl 0 rfl) ?_
        refine lv_iadd hx hb dX1_write_82 ?_
        refine lv_aload_n hx hb dX1_write_83 rfl (lv_at hl 3 rfl) ?_
        refine lv_iload hx hb dX1_write_84 (lv_at hl 0 rfl) ?_
        refine k_afP (va_runV (rest := [.int ((used + 5) + i), .ref qi]) ⟨hx, hb, hml, hown, hts⟩ (m_X0_at l dC dI cI cJ hb9 ab M g i (by first | assumption | decide)) (cwV 1 hts gX1_write_X0_at rfl rfl rfl hdv_X0_at ⟨Nat.le_of_ble_eq_true rfl, Nat.le_of_ble_eq_true rfl⟩) (k_preVP hK hP [9, 10] rfl 9 rfl rfl) rfl rfl hl.1 rfl (lv_room (Nat.le_of_ble_eq_true rfl)) dX1_write_86 ⟨Nat.le_of_ble_eq_true rfl, Nat.le_of_ble_eq_true rfl⟩) ?_
        refine k_afW (wc := [(qi, .inr (1, [.ref ai])), (ai, .inl (cI, N, .inl x))]) (ws' := [(r, .inr (2, [.ref qi, .ref qs, .ref qk, .ref qt, .int last, .int used, .int lod, .int uod])), (qi, .inr (1, [.ref ai])), (ai, .inl (cI, N, .inl (ca_set N x ((used + 5) + i) (ca_at M g i)))), (qs, .inr (1, [.ref aS])), (aS, .inl (cI, K, .inl fs)), (qk, .inr (1, [.ref ak])), (ak, .inl (cI, 6, .inl fk)), (qt, .inr (1, [.ref aT])), (aT, .inl (cI, 8, .inl ft)), (hb9, .inr (1, [.ref ab])), (ab, .inl (cI, M, .inl g))]) (va_runV (rest := []) ⟨hx, hb, hml, hown, hts⟩ (m_X0_set l dC dI cI cJ qi ai N x ((used + 5) + i) (ca_at M g i) (by first | assumption | decide)) (cwV 2 hts gX1_write_X0_set rfl rfl rfl hdv_X0_set ⟨Nat.le_of_ble_eq_true rfl, Nat.le_of_ble_eq_true rfl⟩) (k_preVW hK hP hD [1, 2] rfl rfl 1 rfl rfl) rfl rfl hl.1 rfl (lv_room (Nat.le_of_ble_eq_true rfl)) dX1_write_89 ⟨Nat.le_of_ble_eq_true rfl, Nat.le_of_ble_eq_true rfl⟩) hP hD hS [1, 2] rfl rfl rfl rfl (fun H locs hP hD hS => ?_)
        refine lv_iinc (v := i + 1) (lv' := [(4, .int (i + 1)), (0, .ref r), (1, .int kind), (2, .ref hb9), (3, .int length)]) hx hb dX1_write_92 hl (k := 0) rfl rfl (by decide) rfl (fun ls hl => ?_)
        refine lv_goto (tgt := 64) hx hb dX1_write_95 (by decide) ?_
        exact ih (i + 1) (ca_set N x ((used + 5) + i) (ca_at M g i)) _ _ ls (by rw [loopE_go c1 rfl] at hi; exact hi) (k_meas c1 hm) hP hD hS (lv_sub hl [0, 1, 2, 3, 4] rfl)
  exact loop64 _ 0 (rw_img N fi used last kind length) _ _ ls rfl (Nat.lt_succ_self _) hP hD hS (lv_sub hl [0, 1, 2, 3, 4] rfl)
set_option maxHeartbeats 4000000 in
set_option maxRecDepth 100000 in
theorem m_X1_writeS (l : Launch) (dC : Nat → ClassId) (dI : Nat → Nat → Nat) (cI cJ : ClassId) (r : Nat) (qi : Nat) (ai : Nat) (qs : Nat) (aS : Nat) (qk : Nat) (ak : Nat) (qt : Nat) (aT : Nat) (N : Nat) (K : Nat) (fi : Nat → Int32) (fs : Nat → Int32) (fk : Nat → Int32) (ft : Nat → Int32) (last : Int32) (used : Int32) (lod : Int32) (uod : Int32) (kind : Int32) (length : Int32) (hN : N < 2 ^ 31) (hK9 : K < 2 ^ 31) : cW l yX1_write wsX1_write ({ frames := 3, cells := 0, slots := 0, locals := 63 }) dC dI cI cJ [(r, .inr (2, [.ref qi, .ref qs, .ref qk, .ref qt, .int last, .int used, .int lod, .int uod])), (qi, .inr (1, [.ref ai])), (ai, .inl (cI, N, .inl fi)), (qs, .inr (1, [.ref aS])), (aS, .inl (cI, K, .inl fs)), (qk, .inr (1, [.ref ak])), (ak, .inl (cI, 6, .inl fk)), (qt, .inr (1, [.ref aT])), (aT, .inl (cI, 8, .inl ft))] [(r, .inr (2, [.ref qi, .ref qs, .ref qk, .ref qt, .int (last + 1), .int (rw_enU N K (rw_image N fi used last kind length 8 ft) fs last used), .int lod, .int uod])), (qi, .inr (1, [.ref ai])), (ai, .inl (cI, N, .inl (rw_image N fi used last kind length 8 ft))), (qs, .inr (1, [.ref aS])), (aS, .inl (cI, K, .inl (rw_enS K fs last used))), (qk, .inr (1, [.ref ak])), (ak, .inl (cI, 6, .inl (rw_enK N K (rw_image N fi used last kind length 8 ft) fs fk last used))), (qt, .inr (1, [.ref aT])), (aT, .inl (cI, 8, .inl ft))] [r, qi, ai, qs, aS, qk, ak, qt, aT] [.ref r, .int kind, .ref qt, .int length] (some (.int (last + 1))) := by
  refine Met.ofW (cc := cX1_write) (maxL := 5) (ret := (some .int)) (by decide) rfl ?_
  intro p e s m args below meth c s₁ B hml hv
  obtain ⟨rfl, hP, hK, hD0⟩ := hv
  have hx := B.exec
  have hb := B.bytes
  have hr := B.returns
  have hts := atoms_spec (ws := wsX1_write) B.pre
  have hown : s.vm.findClass RX1 = some m.cls := findClass_of_methodNamed B.named
  have hlocks := B.notSynchronized
  have inX1 : ∀ w ∈ wsX10, w ∈ wsX1_write := fun w h => (List.mem_cons_of_mem _ (List.mem_append_left _ (List.mem_append_right _ h)))
  have fl14 := hts (.fieldLink RX1 14 "StockLog$Rows" "image" "LStockLog$Cells;") (by decide +kernel)
  have fl29 := hts (.fieldLink RX1 29 "StockLog$Rows" "last" "I") (by decide +kernel)
  have fl47 := hts (.fieldLink RX1 47 "StockLog$Rows" "used" "I") (by decide +kernel)
  have hD : va_D (mA [r, qi, ai, qs, aS, qk, ak, qt, aT]) [(r, .inr (2, [.ref qi, .ref qs, .ref qk, .ref qt, .int last, .int used, .int lod, .int uod])), (qi, .inr (1, [.ref ai])), (ai, .inl (cI, N, .inl fi)), (qs, .inr (1, [.ref aS])), (aS, .inl (cI, K, .inl fs)), (qk, .inr (1, [.ref ak])), (ak, .inl (cI, 6, .inl fk)), (qt, .inr (1, [.ref aT])), (aT, .inl (cI, 8, .inl ft))] := k_Dw hD0 rfl
  have hS : va_S (mA [r, qi, ai, qs, aS, qk, ak, qt, aT]) s.heap s.heap [] := va_S.rf
  have hl := lv_entry ([.ref r, .int kind, .ref qt, .int length]) (n := 5) (Nat.le_of_ble_eq_true rfl)
  rw [lg_entry_eq]
  generalize (lg_sl ([.ref r, .int kind, .ref qt, .int length]) ++ List.replicate (5 - (lg_sl ([.ref r, .int kind, .ref qt, .int length])).length) Slot.unset).toArray = ls at hl ⊢
  have hl : lv_has ls 5 [(0, .ref r), (1, .int kind), (2, .ref qt), (3, .int length)] := hl
  refine lv_aload_n hx hb dX1_write_0 rfl (lv_at hl 0 rfl) ?_
  refine k_get (ci := 2) (T := TX1) (N := 8) (C := RX1) hx hb hts inX1 hown hK hP 0 rfl rfl 0 (by decide) fl14 rfl rfl dX1_write_1 ?_
  refine lv_aload_n hx hb dX1_write_4 rfl (lv_at hl 0 rfl) ?_
  refine k_get (ci := 2) (T := TX1) (N := 8) (C := RX1) hx hb hts inX1 hown hK hP 0 rfl rfl 5 (by decide) fl47 rfl rfl dX1_write_5 ?_
  refine lv_bipush (v := 90) hx hb dX1_write_8 (by decide) ?_
  refine k_afW (wc := [(qi, .inr (1, [.ref ai])), (ai, .inl (cI, N, .inl fi))]) (ws' := [(r, .inr (2, [.ref qi, .ref qs, .ref qk, .ref qt, .int last, .int used, .int lod, .int uod])), (qi, .inr (1, [.ref ai])), (ai, .inl (cI, N, .inl (ca_set N fi used 90))), (qs, .inr (1, [.ref aS])), (aS, .inl (cI, K, .inl fs)), (qk, .inr (1, [.ref ak])), (ak, .inl (cI, 6, .inl fk)), (qt, .inr (1, [.ref aT])), (aT, .inl (cI, 8, .inl ft))]) (va_runV (rest := []) ⟨hx, hb, hml, hown, hts⟩ (m_X0_set l dC dI cI cJ qi ai N fi used 90 (by first | assumption | decide)) (cwV 2 hts gX1_write_X0_set rfl rfl rfl hdv_X0_set ⟨Nat.le_of_ble_eq_true rfl, Nat.le_of_ble_eq_true rfl⟩) (k_preVW hK hP hD [1, 2] rfl rfl 1 rfl rfl) rfl rfl hl.1 rfl (lv_room (Nat.le_of_ble_eq_true rfl)) dX1_write_10 ⟨Nat.le_of_ble_eq_true rfl, Nat.le_of_ble_eq_true rfl⟩) hP hD hS [1, 2] rfl rfl rfl rfl (fun H locs hP hD hS => ?_)
  refine lv_aload_n hx hb dX1_write_13 rfl (lv_at hl 0 rfl) ?_
  refine k_get (ci := 2) (T := TX1) (N := 8) (C := RX1) hx hb hts inX1 hown hK hP 0 rfl rfl 0 (by decide) fl14 rfl rfl dX1_write_14 ?_
  refine lv_aload_n hx hb dX1_write_17 rfl (lv_at hl 0 rfl) ?_
  refine k_get (ci := 2) (T := TX1) (N := 8) (C := RX1) hx hb hts inX1 hown hK hP 0 rfl rfl 5 (by decide) fl47 rfl rfl dX1_write_18 ?_
  refine lv_iconst (v := 1) hx hb dX1_write_21 (by decide) ?_
  refine lv_iadd hx hb dX1_write_22 ?_
  refine lv_iload_n hx hb dX1_write_23 rfl (lv_at hl 1 rfl) ?_
  refine k_afW (wc := [(qi, .inr (1, [.ref ai])), (ai, .inl (cI, N, .inl (ca_set N fi used 90)))]) (ws' := [(r, .inr (2, [.ref qi, .ref qs, .ref qk, .ref qt, .int last, .int used, .int lod, .int uod])), (qi, .inr (1, [.ref ai])), (ai, .inl (cI, N, .inl (ca_set N (ca_set N fi used 90) (used + 1) kind))), (qs, .inr (1, [.ref aS])), (aS, .inl (cI, K, .inl fs)), (qk, .inr (1, [.ref ak])), (ak, .inl (cI, 6, .inl fk)), (qt, .inr (1, [.ref aT])), (aT, .inl (cI, 8, .inl ft))]) (va_runV (rest := []) ⟨hx, hb, hml, hown, hts⟩ (m_X0_set l dC dI cI cJ qi ai N (ca_set N fi used 90) (used + 1) kind (by first | assumption | decide)) (cwV 2 hts gX1_write_X0_set rfl rfl rfl hdv_X0_set ⟨Nat.le_of_ble_eq_true rfl, Nat.le_of_ble_eq_true rfl⟩) (k_preVW hK hP hD [1, 2] rfl rfl 1 rfl rfl) rfl rfl hl.1 rfl (lv_room (Nat.le_of_ble_eq_true rfl)) dX1_write_24 ⟨Nat.le_of_ble_eq_true rfl, Nat.le_of_ble_eq_true rfl⟩) hP hD hS [1, 2] rfl rfl rfl rfl (fun H locs hP hD hS => ?_)
  refine lv_aload_n hx hb dX1_write_27 rfl (lv_at hl 0 rfl) ?_
  refine k_get (ci := 2) (T := TX1) (N := 8) (C := RX1) hx hb hts inX1 hown hK hP 0 rfl rfl 0 (by decide) fl14 rfl rfl dX1_write_28 ?_
  refine lv_aload_n hx hb dX1_write_31 rfl (lv_at hl 0 rfl) ?_
  refine k_get (ci := 2) (T := TX1) (N := 8) (C := RX1) hx hb hts inX1 hown hK hP 0 rfl rfl 5 (by decide) fl47 rfl rfl dX1_write_32 ?_
  refine lv_iconst (v := 2) hx hb dX1_write_35 (by decide) ?_
  refine lv_iadd hx hb dX1_write_36 ?_
  refine lv_iconst (v := 2) hx hb dX1_write_37 (by decide) ?_
  refine lv_aload_n hx hb dX1_write_38 rfl (lv_at hl 0 rfl) ?_
  refine k_get (ci := 2) (T := TX1) (N := 8) (C := RX1) hx hb hts inX1 hown hK hP 0 rfl rfl 4 (by decide) fl29 rfl rfl dX1_write_39 ?_
  refine lv_iconst (v := 1) hx hb dX1_write_42 (by decide) ?_
  refine lv_iadd hx hb dX1_write_43 ?_
  refine k_afW (wc := [(qi, .inr (1, [.ref ai])), (ai, .inl (cI, N, .inl (ca_set N (ca_set N fi used 90) (used + 1) kind)))]) (ws' := [(r, .inr (2, [.ref qi, .ref qs, .ref qk, .ref qt, .int last, .int used, .int lod, .int uod])), (qi, .inr (1, [.ref ai])), (ai, .inl (cI, N, .inl (ca_setNum N (ca_set N (ca_set N fi used 90) (used + 1) kind) (used + 2) 2 (last + 1)))), (qs, .inr (1, [.ref aS])), (aS, .inl (cI, K, .inl fs)), (qk, .inr (1, [.ref ak])), (ak, .inl (cI, 6, .inl fk)), (qt, .inr (1, [.ref aT])), (aT, .inl (cI, 8, .inl ft))]) (va_runV (rest := []) ⟨hx, hb, hml, hown, hts⟩ (m_X0_setNumber l dC dI cI cJ qi ai N (ca_set N (ca_set N fi used 90) (used + 1) kind) (used + 2) 2 (last + 1) (by first | assumption | decide)) (cwV 3 hts gX1_write_X0_setNumber rfl rfl rfl hdv_X0_setNumber ⟨Nat.le_of_ble_eq_true rfl, Nat.le_of_ble_eq_true rfl⟩) (k_preVW hK hP hD [1, 2] rfl rfl 1 rfl rfl) rfl rfl hl.1 rfl (lv_room (Nat.le_of_ble_eq_true rfl)) dX1_write_44 ⟨Nat.le_of_ble_eq_true rfl, Nat.le_of_ble_eq_true rfl⟩) hP hD hS [1, 2] rfl rfl rfl rfl (fun H locs hP hD hS => ?_)
  refine lv_aload_n hx hb dX1_write_47 rfl (lv_at hl 0 rfl) ?_
  refine k_get (ci := 2) (T := TX1) (N := 8) (C := RX1) hx hb hts inX1 hown hK hP 0 rfl rfl 0 (by decide) fl14 rfl rfl dX1_write_48 ?_
  refine lv_aload_n hx hb dX1_write_51 rfl (lv_at hl 0 rfl) ?_
  refine k_get (ci := 2) (T := TX1) (N := 8) (C := RX1) hx hb hts inX1 hown hK hP 0 rfl rfl 5 (by decide) fl47 rfl rfl dX1_write_52 ?_
  refine lv_iconst (v := 4) hx hb dX1_write_55 (by decide) ?_
  refine lv_iadd hx hb dX1_write_56 ?_
  refine lv_iload_n hx hb dX1_write_57 rfl (lv_at hl 3 rfl) ?_
  refine k_afW (wc := [(qi, .inr (1, [.ref ai])), (ai, .inl (cI, N, .inl (ca_setNum N (ca_set N (ca_set N fi used 90) (used + 1) kind) (used + 2) 2 (last + 1))))]) (ws' := [(r, .inr (2, [.ref qi, .ref qs, .ref qk, .ref qt, .int last, .int used, .int lod, .int uod])), (qi, .inr (1, [.ref ai])), (ai, .inl (cI, N, .inl (ca_set N (ca_setNum N (ca_set N (ca_set N fi used 90) (used + 1) kind) (used + 2) 2 (last + 1)) (used + 4) length))), (qs, .inr (1, [.ref aS])), (aS, .inl (cI, K, .inl fs)), (qk, .inr (1, [.ref ak])), (ak, .inl (cI, 6, .inl fk)), (qt, .inr (1, [.ref aT])), (aT, .inl (cI, 8, .inl ft))]) (va_runV (rest := []) ⟨hx, hb, hml, hown, hts⟩ (m_X0_set l dC dI cI cJ qi ai N (ca_setNum N (ca_set N (ca_set N fi used 90) (used + 1) kind) (used + 2) 2 (last + 1)) (used + 4) length (by first | assumption | decide)) (cwV 2 hts gX1_write_X0_set rfl rfl rfl hdv_X0_set ⟨Nat.le_of_ble_eq_true rfl, Nat.le_of_ble_eq_true rfl⟩) (k_preVW hK hP hD [1, 2] rfl rfl 1 rfl rfl) rfl rfl hl.1 rfl (lv_room (Nat.le_of_ble_eq_true rfl)) dX1_write_58 ⟨Nat.le_of_ble_eq_true rfl, Nat.le_of_ble_eq_true rfl⟩) hP hD hS [1, 2] rfl rfl rfl rfl (fun H locs hP hD hS => ?_)
  refine lv_iconst (v := 0) hx hb dX1_write_61 (by decide) ?_
  refine lv_istore (lv' := [(4, .int 0), (0, .ref r), (1, .int kind), (2, .ref qt), (3, .int length)]) hx hb dX1_write_62 hl (by decide) rfl (fun ls hl => ?_)
  have loop64 : ∀ (n : Nat) (i : Int32) (x : Nat → Int32) (H : Heap) (locs : List Loc) (ls : Array Slot), (loopE length (fun i (x : Nat → Int32) => (.inl (ca_set N x ((used + 5) + i) (ca_at 8 ft i)) : (Nat → Int32) ⊕ (Nat → Int32))) id i x = rw_body N (rw_img N fi used last kind length) 8 ft used length) → (length.toInt - i.toInt).toNat < n → va_P (dC, dI) vwCl [(r, .inr (2, [.ref qi, .ref qs, .ref qk, .ref qt, .int last, .int used, .int lod, .int uod])), (qi, .inr (1, [.ref ai])), (ai, .inl (cI, N, .inl x)), (qs, .inr (1, [.ref aS])), (aS, .inl (cI, K, .inl fs)), (qk, .inr (1, [.ref ak])), (ak, .inl (cI, 6, .inl fk)), (qt, .inr (1, [.ref aT])), (aT, .inl (cI, 8, .inl ft))] H → va_D (mA [r, qi, ai, qs, aS, qk, ak, qt, aT]) [(r, .inr (2, [.ref qi, .ref qs, .ref qk, .ref qt, .int last, .int used, .int lod, .int uod])), (qi, .inr (1, [.ref ai])), (ai, .inl (cI, N, .inl x)), (qs, .inr (1, [.ref aS])), (aS, .inl (cI, K, .inl fs)), (qk, .inr (1, [.ref ak])), (ak, .inl (cI, 6, .inl fk)), (qt, .inr (1, [.ref aT])), (aT, .inl (cI, 8, .inl ft))] → va_S (mA [r, qi, ai, qs, aS, qk, ak, qt, aT]) s.heap H locs → lv_has ls 5 [(4, .int i), (0, .ref r), (1, .int kind), (2, .ref qt), (3, .int length)] → W p l e (headSpec wsX1_write ({ frames := 3, cells := 0, slots := 0, locals := 63 })).room s m ([.ref r, .int kind, .ref qt, .int length] : List Value).toArray below meth c H locs 0 0 (MQ below (mQ dC dI [(r, .inr (2, [.ref qi, .ref qs, .ref qk, .ref qt, .int (last + 1), .int (rw_enU N K (rw_image N fi used last kind length 8 ft) fs last used), .int lod, .int uod])), (qi, .inr (1, [.ref ai])), (ai, .inl (cI, N, .inl (rw_image N fi used last kind length 8 ft))), (qs, .inr (1, [.ref aS])), (aS, .inl (cI, K, .inl (rw_enS K fs last used))), (qk, .inr (1, [.ref ak])), (ak, .inl (cI, 6, .inl (rw_enK N K (rw_image N fi used last kind length 8 ft) fs fk last used))), (qt, .inr (1, [.ref aT])), (aT, .inl (cI, 8, .inl ft))] [r, qi, ai, qs, aS, qk, ak, qt, aT] (some (.int (last + 1)))) ([.ref r, .int kind, .ref qt, .int length] : List Value).toArray s 0 0 (mA [r, qi, ai, qs, aS, qk, ak, qt, aT])) (F0 m 64 ls []) := by
    intro n
    induction n with
    | zero => intro i x H locs ls hi hm; exact absurd hm (Nat.not_lt_zero _)
    | succ n ih =>
      intro i x H locs ls hi hm hP hD hS hl
      refine lv_iload hx hb dX1_write_64 (lv_at hl 0 rfl) ?_
      refine lv_iload_n hx hb dX1_write_66 rfl (lv_at hl 4 rfl) ?_
      refine lv_icmp_ge (tgt := 98) hx hb dX1_write_67 (by decide) (fun c1 => ?_) (fun c1 => ?_)
      · refine lv_aload_n hx hb dX1_write_98 rfl (lv_at hl 1 rfl) ?_
        refine k_get (ci := 2) (T := TX1) (N := 8) (C := RX1) hx hb hts inX1 hown hK hP 0 rfl rfl 0 (by decide) fl14 rfl rfl dX1_write_99 ?_
        refine lv_aload_n hx hb dX1_write_102 rfl (lv_at hl 1 rfl) ?_
        refine k_get (ci := 2) (T := TX1) (N := 8) (C := RX1) hx hb hts inX1 hown hK hP 0 rfl rfl 5 (by decide) fl47 rfl rfl dX1_write_103 ?_
        refine lv_iconst (v := 5) hx hb dX1_write_106 (by decide) ?_
        refine lv_iadd hx hb dX1_write_107 ?_
        refine lv_iload_n hx hb dX1_write_108 rfl (lv_at hl 4 rfl) ?_
        refine lv_iadd hx hb dX1_write_109 ?_
        refine lv_iconst (v := 4) hx hb dX1_write_110 (by decide) ?_
        refine lv_aload_n hx hb dX1_write_111 rfl (lv_at hl 1 rfl) ?_
        refine k_get (ci := 2) (T := TX1) (N := 8) (C := RX1) hx hb hts inX1 hown hK hP 0 rfl rfl 0 (by decide) fl14 rfl rfl dX1_write_112 ?_
        refine lv_aload_n hx hb dX1_write_115 rfl (lv_at hl 1 rfl) ?_
        refine k_get (ci := 2) (T := TX1) (N := 8) (C := RX1) hx hb hts inX1 hown hK hP 0 rfl rfl 5 (by decide) fl47 rfl rfl dX1_write_116 ?_
        refine lv_iload_n hx hb dX1_write_119 rfl (lv_at hl 4 rfl) ?_
        refine k_afP (va_runSN (host := "StockLog") (rest := [.int 4, .int ((used + 5) + length), .ref qi]) ⟨hx, hb, hml, hown, hts⟩ (m_X2_sumOfRow l dC dI cI cJ qi ai N x used length (by first | assumption | decide)) ⟨va_cnB 3 hts ggX1_write_X2_sumOfRow rfl rfl rfl (hK.2.2 (RX1, 61, yX2_sumOfRow, "StockLog") (by decide +kernel)) (hts (.initialized RX2) (by decide +kernel)) hdn_X2_sumOfRow ⟨Nat.le_of_ble_eq_true rfl, Nat.le_of_ble_eq_true rfl⟩, hts (.static yX2_sumOfRow) (by decide +kernel), trivial⟩ (k_preSP hK hP [1, 2] rfl) rfl rfl hl.1 rfl (lv_room (Nat.le_of_ble_eq_true rfl)) dX1_write_120 ⟨Nat.le_of_ble_eq_true rfl, Nat.le_of_ble_eq_true rfl⟩) ?_
        refine k_afW (wc := [(qi, .inr (1, [.ref ai])), (ai, .inl (cI, N, .inl x))]) (ws' := [(r, .inr (2, [.ref qi, .ref qs, .ref qk, .ref qt, .int last, .int used, .int lod, .int uod])), (qi, .inr (1, [.ref ai])), (ai, .inl (cI, N, .inl (ca_setNum N x ((used + 5) + length) 4 (sl_sum N x used length)))), (qs, .inr (1, [.ref aS])), (aS, .inl (cI, K, .inl fs)), (qk, .inr (1, [.ref ak])), (ak, .inl (cI, 6, .inl fk)), (qt, .inr (1, [.ref aT])), (aT, .inl (cI, 8, .inl ft))]) (va_runV (rest := []) ⟨hx, hb, hml, hown, hts⟩ (m_X0_setNumber l dC dI cI cJ qi ai N x ((used + 5) + length) 4 (sl_sum N x used length) (by first | assumption | decide)) (cwV 3 hts gX1_write_X0_setNumber rfl rfl rfl hdv_X0_setNumber ⟨Nat.le_of_ble_eq_true rfl, Nat.le_of_ble_eq_true rfl⟩) (k_preVW hK hP hD [1, 2] rfl rfl 1 rfl rfl) rfl rfl hl.1 rfl (lv_room (Nat.le_of_ble_eq_true rfl)) dX1_write_123 ⟨Nat.le_of_ble_eq_true rfl, Nat.le_of_ble_eq_true rfl⟩) hP hD hS [1, 2] rfl rfl rfl rfl (fun H locs hP hD hS => ?_)
        refine lv_aload_n hx hb dX1_write_126 rfl (lv_at hl 1 rfl) ?_
        refine k_afW (wc := [(r, .inr (2, [.ref qi, .ref qs, .ref qk, .ref qt, .int last, .int used, .int lod, .int uod])), (qi, .inr (1, [.ref ai])), (ai, .inl (cI, N, .inl (ca_setNum N x ((used + 5) + length) 4 (sl_sum N x used length)))), (qs, .inr (1, [.ref aS])), (aS, .inl (cI, K, .inl fs)), (qk, .inr (1, [.ref ak])), (ak, .inl (cI, 6, .inl fk)), (qt, .inr (1, [.ref aT])), (aT, .inl (cI, 8, .inl ft))]) (ws' := [(r, .inr (2, [.ref qi, .ref qs, .ref qk, .ref qt, .int (last + 1), .int (rw_enU N K (ca_setNum N x ((used + 5) + length) 4 (sl_sum N x used length)) fs last used), .int lod, .int uod])), (qi, .inr (1, [.ref ai])), (ai, .inl (cI, N, .inl (ca_setNum N x ((used + 5) + length) 4 (sl_sum N x used length)))), (qs, .inr (1, [.ref aS])), (aS, .inl (cI, K, .inl (rw_enS K fs last used))), (qk, .inr (1, [.ref ak])), (ak, .inl (cI, 6, .inl (rw_enK N K (ca_setNum N x ((used + 5) + length) 4 (sl_sum N x used length)) fs fk last used))), (qt, .inr (1, [.ref aT])), (aT, .inl (cI, 8, .inl ft))]) (va_runV (rest := []) ⟨hx, hb, hml, hown, hts⟩ (m_X1_enlistNext l dC dI cI cJ r qi ai qs aS qk ak qt aT N K (ca_setNum N x ((used + 5) + length) 4 (sl_sum N x used length)) fs fk ft last used lod uod (by first | assumption | decide) (by first | assumption | decide)) (cwV 0 hts gX1_write_X1_enlistNext rfl rfl rfl hdv_X1_enlistNext ⟨Nat.le_of_ble_eq_true rfl, Nat.le_of_ble_eq_true rfl⟩) (k_preVW hK hP hD [0, 1, 2, 3, 4, 5, 6, 7, 8] rfl rfl 0 rfl rfl) rfl rfl hl.1 rfl (lv_room (Nat.le_of_ble_eq_true rfl)) dX1_write_127 ⟨Nat.le_of_ble_eq_true rfl, Nat.le_of_ble_eq_true rfl⟩) hP hD hS [0, 1, 2, 3, 4, 5, 6, 7, 8] rfl rfl rfl rfl (fun H locs hP hD hS => ?_)
        refine lv_aload_n hx hb dX1_write_130 rfl (lv_at hl 1 rfl) ?_
        refine k_get (ci := 2) (T := TX1) (N := 8) (C := RX1) hx hb hts inX1 hown hK hP 0 rfl rfl 4 (by decide) fl29 rfl rfl dX1_write_131 ?_
        exact k_iretW hx hb hr hlocks hP hS rfl (by have hi2 : x = rw_body N (rw_img N fi used last kind length) 8 ft used length := (by rw [← hi, loopE_exit c1]; rfl); subst hi2; rfl) dX1_write_134
      · refine lv_aload_n hx hb dX1_write_70 rfl (lv_at hl 1 rfl) ?_
        refine k_get (ci := 2) (T := TX1) (N := 8) (C := RX1) hx hb hts inX1 hown hK hP 0 rfl rfl 0 (by decide) fl14 rfl rfl dX1_write_71 ?_
        refine lv_aload_n hx hb dX1_write_74 rfl (lv_at hl 1 rfl) ?_
        refine k_get (ci := 2) (T := TX1) (N := 8) (C := RX1) hx hb hts inX1 hown hK hP 0 rfl rfl 5 (by decide) fl47 rfl rfl dX1_write_75 ?_
        refine lv_iconst (v := 5) hx hb dX1_write_78 (by decide) ?_
        refine lv_iadd hx hb dX1_write_79 ?_
        refine lv_iload hx hb dX1_write_80 (lv_at hl 0 rfl) ?_
        refine lv_iadd hx hb dX1_write_82 ?_
        refine lv_aload_n hx hb dX1_write_83 rfl (lv_at hl 3 rfl) ?_
        refine lv_iload hx hb dX1_write_84 (lv_at hl 0 rfl) ?_
        refine k_afP (va_runV (rest := [.int ((used + 5) + i), .ref qi]) ⟨hx, hb, hml, hown, hts⟩ (m_X0_at l dC dI cI cJ qt aT 8 ft i (by first | assumption | decide)) (cwV 1 hts gX1_write_X0_at rfl rfl rfl hdv_X0_at ⟨Nat.le_of_ble_eq_true rfl, Nat.le_of_ble_eq_true rfl⟩) (k_preVP hK hP [7, 8] rfl 7 rfl rfl) rfl rfl hl.1 rfl (lv_room (Nat.le_of_ble_eq_true rfl)) dX1_write_86 ⟨Nat.le_of_ble_eq_true rfl, Nat.le_of_ble_eq_true rfl⟩) ?_
        refine k_afW (wc := [(qi, .inr (1, [.ref ai])), (ai, .inl (cI, N, .inl x))]) (ws' := [(r, .inr (2, [.ref qi, .ref qs, .ref qk, .ref qt, .int last, .int used, .int lod, .int uod])), (qi, .inr (1, [.ref ai])), (ai, .inl (cI, N, .inl (ca_set N x ((used + 5) + i) (ca_at 8 ft i)))), (qs, .inr (1, [.ref aS])), (aS, .inl (cI, K, .inl fs)), (qk, .inr (1, [.ref ak])), (ak, .inl (cI, 6, .inl fk)), (qt, .inr (1, [.ref aT])), (aT, .inl (cI, 8, .inl ft))]) (va_runV (rest := []) ⟨hx, hb, hml, hown, hts⟩ (m_X0_set l dC dI cI cJ qi ai N x ((used + 5) + i) (ca_at 8 ft i) (by first | assumption | decide)) (cwV 2 hts gX1_write_X0_set rfl rfl rfl hdv_X0_set ⟨Nat.le_of_ble_eq_true rfl, Nat.le_of_ble_eq_true rfl⟩) (k_preVW hK hP hD [1, 2] rfl rfl 1 rfl rfl) rfl rfl hl.1 rfl (lv_room (Nat.le_of_ble_eq_true rfl)) dX1_write_89 ⟨Nat.le_of_ble_eq_true rfl, Nat.le_of_ble_eq_true rfl⟩) hP hD hS [1, 2] rfl rfl rfl rfl (fun H locs hP hD hS => ?_)
        refine lv_iinc (v := i + 1) (lv' := [(4, .int (i + 1)), (0, .ref r), (1, .int kind), (2, .ref qt), (3, .int length)]) hx hb dX1_write_92 hl (k := 0) rfl rfl (by decide) rfl (fun ls hl => ?_)
        refine lv_goto (tgt := 64) hx hb dX1_write_95 (by decide) ?_
        exact ih (i + 1) (ca_set N x ((used + 5) + i) (ca_at 8 ft i)) _ _ ls (by rw [loopE_go c1 rfl] at hi; exact hi) (k_meas c1 hm) hP hD hS (lv_sub hl [0, 1, 2, 3, 4] rfl)
  exact loop64 _ 0 (rw_img N fi used last kind length) _ _ ls rfl (Nat.lt_succ_self _) hP hD hS (lv_sub hl [0, 1, 2, 3, 4] rfl)
end
section
set_option maxHeartbeats 4000000 in
set_option maxRecDepth 100000 in
theorem m_X1_markAllOnDisk (l : Launch) (dC : Nat → ClassId) (dI : Nat → Nat → Nat) (cI cJ : ClassId) (r : Nat) (qi : Nat) (ai : Nat) (qs : Nat) (aS : Nat) (qk : Nat) (ak : Nat) (qt : Nat) (aT : Nat) (N : Nat) (K : Nat) (fi : Nat → Int32) (fs : Nat → Int32) (fk : Nat → Int32) (ft : Nat → Int32) (last : Int32) (used : Int32) (lod : Int32) (uod : Int32)  : cW l yX1_markAllOnDisk wsX1_markAllOnDisk ({ frames := 0, cells := 0, slots := 0, locals := 0 }) dC dI cI cJ [(r, .inr (2, [.ref qi, .ref qs, .ref qk, .ref qt, .int last, .int used, .int lod, .int uod])), (qi, .inr (1, [.ref ai])), (ai, .inl (cI, N, .inl fi)), (qs, .inr (1, [.ref aS])), (aS, .inl (cI, K, .inl fs)), (qk, .inr (1, [.ref ak])), (ak, .inl (cI, 6, .inl fk)), (qt, .inr (1, [.ref aT])), (aT, .inl (cI, 8, .inl ft))] [(r, .inr (2, [.ref qi, .ref qs, .ref qk, .ref qt, .int last, .int used, .int last, .int used])), (qi, .inr (1, [.ref ai])), (ai, .inl (cI, N, .inl fi)), (qs, .inr (1, [.ref aS])), (aS, .inl (cI, K, .inl fs)), (qk, .inr (1, [.ref ak])), (ak, .inl (cI, 6, .inl fk)), (qt, .inr (1, [.ref aT])), (aT, .inl (cI, 8, .inl ft))] [r, qi, ai, qs, aS, qk, ak, qt, aT] [.ref r] none := by
  refine Met.ofW (cc := cX1_markAllOnDisk) (maxL := 1) (ret := none) (by decide) rfl ?_
  intro p e s m args below meth c s₁ B hml hv
  obtain ⟨rfl, hP, hK, hD0⟩ := hv
  have hx := B.exec
  have hb := B.bytes
  have hr := B.returns
  have hts := atoms_spec (ws := wsX1_markAllOnDisk) B.pre
  have hown : s.vm.findClass RX1 = some m.cls := findClass_of_methodNamed B.named
  have hlocks := B.notSynchronized
  have inX1 : ∀ w ∈ wsX10, w ∈ wsX1_markAllOnDisk := fun w h => (List.mem_cons_of_mem _ (List.mem_append_right _ h))
  have fl29 := hts (.fieldLink RX1 29 "StockLog$Rows" "last" "I") (by decide +kernel)
  have fl47 := hts (.fieldLink RX1 47 "StockLog$Rows" "used" "I") (by decide +kernel)
  have fl50 := hts (.fieldLink RX1 50 "StockLog$Rows" "usedOnDisk" "I") (by decide +kernel)
  have fl75 := hts (.fieldLink RX1 75 "StockLog$Rows" "lastOnDisk" "I") (by decide +kernel)
  have hD : va_D (mA [r, qi, ai, qs, aS, qk, ak, qt, aT]) [(r, .inr (2, [.ref qi, .ref qs, .ref qk, .ref qt, .int last, .int used, .int lod, .int uod])), (qi, .inr (1, [.ref ai])), (ai, .inl (cI, N, .inl fi)), (qs, .inr (1, [.ref aS])), (aS, .inl (cI, K, .inl fs)), (qk, .inr (1, [.ref ak])), (ak, .inl (cI, 6, .inl fk)), (qt, .inr (1, [.ref aT])), (aT, .inl (cI, 8, .inl ft))] := k_Dw hD0 rfl
  have hS : va_S (mA [r, qi, ai, qs, aS, qk, ak, qt, aT]) s.heap s.heap [] := va_S.rf
  have hl := lv_entry ([.ref r]) (n := 1) (Nat.le_of_ble_eq_true rfl)
  rw [lg_entry_eq]
  generalize (lg_sl ([.ref r]) ++ List.replicate (1 - (lg_sl ([.ref r])).length) Slot.unset).toArray = ls at hl ⊢
  have hl : lv_has ls 1 [(0, .ref r)] := hl
  refine lv_aload_n hx hb dX1_markAllOnDisk_0 rfl (lv_at hl 0 rfl) ?_
  refine lv_aload_n hx hb dX1_markAllOnDisk_1 rfl (lv_at hl 0 rfl) ?_
  refine k_get (ci := 2) (T := TX1) (N := 8) (C := RX1) hx hb hts inX1 hown hK hP 0 rfl rfl 4 (by decide) fl29 rfl rfl dX1_markAllOnDisk_2 ?_
  refine k_putf (ws' := [(r, .inr (2, [.ref qi, .ref qs, .ref qk, .ref qt, .int last, .int used, .int last, .int uod])), (qi, .inr (1, [.ref ai])), (ai, .inl (cI, N, .inl fi)), (qs, .inr (1, [.ref aS])), (aS, .inl (cI, K, .inl fs)), (qk, .inr (1, [.ref ak])), (ak, .inl (cI, 6, .inl fk)), (qt, .inr (1, [.ref aT])), (aT, .inl (cI, 8, .inl ft))]) (ci := 2) (T := TX1) (N := 8) (C := RX1) (ty := .int) hx hb hts inX1 tyX1 tyX1_ok nmX1 hown hK hP hD hS 0 rfl rfl 6 (by decide) fl75 rfl rfl rfl rfl rfl (Nat.le_of_ble_eq_true rfl) dX1_markAllOnDisk_5 rfl (fun H locs hP hD hS => ?_)
  refine lv_aload_n hx hb dX1_markAllOnDisk_8 rfl (lv_at hl 0 rfl) ?_
  refine lv_aload_n hx hb dX1_markAllOnDisk_9 rfl (lv_at hl 0 rfl) ?_
  refine k_get (ci := 2) (T := TX1) (N := 8) (C := RX1) hx hb hts inX1 hown hK hP 0 rfl rfl 5 (by decide) fl47 rfl rfl dX1_markAllOnDisk_10 ?_
  refine k_putf (ws' := [(r, .inr (2, [.ref qi, .ref qs, .ref qk, .ref qt, .int last, .int used, .int last, .int used])), (qi, .inr (1, [.ref ai])), (ai, .inl (cI, N, .inl fi)), (qs, .inr (1, [.ref aS])), (aS, .inl (cI, K, .inl fs)), (qk, .inr (1, [.ref ak])), (ak, .inl (cI, 6, .inl fk)), (qt, .inr (1, [.ref aT])), (aT, .inl (cI, 8, .inl ft))]) (ci := 2) (T := TX1) (N := 8) (C := RX1) (ty := .int) hx hb hts inX1 tyX1 tyX1_ok nmX1 hown hK hP hD hS 0 rfl rfl 7 (by decide) fl50 rfl rfl rfl rfl rfl (Nat.le_of_ble_eq_true rfl) dX1_markAllOnDisk_13 rfl (fun H locs hP hD hS => ?_)
  exact k_vretW hx hb hr hlocks hP hS rfl dX1_markAllOnDisk_16
set_option maxHeartbeats 4000000 in
set_option maxRecDepth 100000 in
theorem m_X1_dropMemory (l : Launch) (dC : Nat → ClassId) (dI : Nat → Nat → Nat) (cI cJ : ClassId) (r : Nat) (qi : Nat) (ai : Nat) (qs : Nat) (aS : Nat) (qk : Nat) (ak : Nat) (qt : Nat) (aT : Nat) (N : Nat) (K : Nat) (fi : Nat → Int32) (fs : Nat → Int32) (fk : Nat → Int32) (ft : Nat → Int32) (last : Int32) (used : Int32) (lod : Int32) (uod : Int32) (hN : N < 2 ^ 31) (hK9 : K < 2 ^ 31) (hlast : last < 2147483647) : cW l yX1_dropMemory wsX1_dropMemory ({ frames := 2, cells := 0, slots := 0, locals := 42 }) dC dI cI cJ [(r, .inr (2, [.ref qi, .ref qs, .ref qk, .ref qt, .int last, .int used, .int lod, .int uod])), (qi, .inr (1, [.ref ai])), (ai, .inl (cI, N, .inl fi)), (qs, .inr (1, [.ref aS])), (aS, .inl (cI, K, .inl fs)), (qk, .inr (1, [.ref ak])), (ak, .inl (cI, 6, .inl fk)), (qt, .inr (1, [.ref aT])), (aT, .inl (cI, 8, .inl ft))] [(r, .inr (2, [.ref qi, .ref qs, .ref qk, .ref qt, .int lod, .int uod, .int lod, .int uod])), (qi, .inr (1, [.ref ai])), (ai, .inl (cI, N, .inl fi)), (qs, .inr (1, [.ref aS])), (aS, .inl (cI, K, .inl fs)), (qk, .inr (1, [.ref ak])), (ak, .inl (cI, 6, .inl (rw_drop N K fi fs fk last lod))), (qt, .inr (1, [.ref aT])), (aT, .inl (cI, 8, .inl ft))] [r, qi, ai, qs, aS, qk, ak, qt, aT] [.ref r] none := by
  refine Met.ofW (cc := cX1_dropMemory) (maxL := 3) (ret := none) (by decide) rfl ?_
  intro p e s m args below meth c s₁ B hml hv
  obtain ⟨rfl, hP, hK, hD0⟩ := hv
  have hx := B.exec
  have hb := B.bytes
  have hr := B.returns
  have hts := atoms_spec (ws := wsX1_dropMemory) B.pre
  have hown : s.vm.findClass RX1 = some m.cls := findClass_of_methodNamed B.named
  have hlocks := B.notSynchronized
  have inX1 : ∀ w ∈ wsX10, w ∈ wsX1_dropMemory := fun w h => (List.mem_cons_of_mem _ (List.mem_append_left _ (List.mem_append_right _ h)))
  have fl23 := hts (.fieldLink RX1 23 "StockLog$Rows" "ofKind" "LStockLog$Cells;") (by decide +kernel)
  have fl29 := hts (.fieldLink RX1 29 "StockLog$Rows" "last" "I") (by decide +kernel)
  have fl47 := hts (.fieldLink RX1 47 "StockLog$Rows" "used" "I") (by decide +kernel)
  have fl50 := hts (.fieldLink RX1 50 "StockLog$Rows" "usedOnDisk" "I") (by decide +kernel)
  have fl75 := hts (.fieldLink RX1 75 "StockLog$Rows" "lastOnDisk" "I") (by decide +kernel)
  have hD : va_D (mA [r, qi, ai, qs, aS, qk, ak, qt, aT]) [(r, .inr (2, [.ref qi, .ref qs, .ref qk, .ref qt, .int last, .int used, .int lod, .int uod])), (qi, .inr (1, [.ref ai])), (ai, .inl (cI, N, .inl fi)), (qs, .inr (1, [.ref aS])), (aS, .inl (cI, K, .inl fs)), (qk, .inr (1, [.ref ak])), (ak, .inl (cI, 6, .inl fk)), (qt, .inr (1, [.ref aT])), (aT, .inl (cI, 8, .inl ft))] := k_Dw hD0 rfl
  have hS : va_S (mA [r, qi, ai, qs, aS, qk, ak, qt, aT]) s.heap s.heap [] := va_S.rf
  have hl := lv_entry ([.ref r]) (n := 3) (Nat.le_of_ble_eq_true rfl)
  rw [lg_entry_eq]
  generalize (lg_sl ([.ref r]) ++ List.replicate (3 - (lg_sl ([.ref r])).length) Slot.unset).toArray = ls at hl ⊢
  have hl : lv_has ls 3 [(0, .ref r)] := hl
  refine lv_aload_n hx hb dX1_dropMemory_0 rfl (lv_at hl 0 rfl) ?_
  refine k_get (ci := 2) (T := TX1) (N := 8) (C := RX1) hx hb hts inX1 hown hK hP 0 rfl rfl 6 (by decide) fl75 rfl rfl dX1_dropMemory_1 ?_
  refine lv_iconst (v := 1) hx hb dX1_dropMemory_4 (by decide) ?_
  refine lv_iadd hx hb dX1_dropMemory_5 ?_
  refine lv_istore_n (lv' := [(1, .int (lod + 1)), (0, .ref r)]) hx hb dX1_dropMemory_6 rfl hl (by decide) rfl (fun ls hl => ?_)
  have loop7 : ∀ (n : Nat) (number : Int32) (x : Nat → Int32) (H : Heap) (locs : List Loc) (ls : Array Slot), (loopE (last + 1) (fun number (x : Nat → Int32) => (.inl (rw_dec x (rw_kindOf N K fi fs number)) : (Nat → Int32) ⊕ (Nat → Int32))) id number x = rw_drop N K fi fs fk last lod) → ((last + 1).toInt - number.toInt).toNat < n → va_P (dC, dI) vwCl [(r, .inr (2, [.ref qi, .ref qs, .ref qk, .ref qt, .int last, .int used, .int lod, .int uod])), (qi, .inr (1, [.ref ai])), (ai, .inl (cI, N, .inl fi)), (qs, .inr (1, [.ref aS])), (aS, .inl (cI, K, .inl fs)), (qk, .inr (1, [.ref ak])), (ak, .inl (cI, 6, .inl x)), (qt, .inr (1, [.ref aT])), (aT, .inl (cI, 8, .inl ft))] H → va_D (mA [r, qi, ai, qs, aS, qk, ak, qt, aT]) [(r, .inr (2, [.ref qi, .ref qs, .ref qk, .ref qt, .int last, .int used, .int lod, .int uod])), (qi, .inr (1, [.ref ai])), (ai, .inl (cI, N, .inl fi)), (qs, .inr (1, [.ref aS])), (aS, .inl (cI, K, .inl fs)), (qk, .inr (1, [.ref ak])), (ak, .inl (cI, 6, .inl x)), (qt, .inr (1, [.ref aT])), (aT, .inl (cI, 8, .inl ft))] → va_S (mA [r, qi, ai, qs, aS, qk, ak, qt, aT]) s.heap H locs → lv_has ls 3 [(1, .int number), (0, .ref r)] → W p l e (headSpec wsX1_dropMemory ({ frames := 2, cells := 0, slots := 0, locals := 42 })).room s m ([.ref r] : List Value).toArray below meth c H locs 0 0 (MQ below (mQ dC dI [(r, .inr (2, [.ref qi, .ref qs, .ref qk, .ref qt, .int lod, .int uod, .int lod, .int uod])), (qi, .inr (1, [.ref ai])), (ai, .inl (cI, N, .inl fi)), (qs, .inr (1, [.ref aS])), (aS, .inl (cI, K, .inl fs)), (qk, .inr (1, [.ref ak])), (ak, .inl (cI, 6, .inl (rw_drop N K fi fs fk last lod))), (qt, .inr (1, [.ref aT])), (aT, .inl (cI, 8, .inl ft))] [r, qi, ai, qs, aS, qk, ak, qt, aT] none) ([.ref r] : List Value).toArray s 0 0 (mA [r, qi, ai, qs, aS, qk, ak, qt, aT])) (F0 m 7 ls []) := by
    intro n
    induction n with
    | zero => intro number x H locs ls hi hm; exact absurd hm (Nat.not_lt_zero _)
    | succ n ih =>
      intro number x H locs ls hi hm hP hD hS hl
      refine lv_iload_n hx hb dX1_dropMemory_7 rfl (lv_at hl 0 rfl) ?_
      refine lv_aload_n hx hb dX1_dropMemory_8 rfl (lv_at hl 1 rfl) ?_
      refine k_get (ci := 2) (T := TX1) (N := 8) (C := RX1) hx hb hts inX1 hown hK hP 0 rfl rfl 4 (by decide) fl29 rfl rfl dX1_dropMemory_9 ?_
      refine lv_icmp_gt (tgt := 45) hx hb dX1_dropMemory_12 (by decide) (fun c1 => ?_) (fun c1 => ?_)
      · refine lv_aload_n hx hb dX1_dropMemory_45 rfl (lv_at hl 1 rfl) ?_
        refine lv_aload_n hx hb dX1_dropMemory_46 rfl (lv_at hl 1 rfl) ?_
        refine k_get (ci := 2) (T := TX1) (N := 8) (C := RX1) hx hb hts inX1 hown hK hP 0 rfl rfl 6 (by decide) fl75 rfl rfl dX1_dropMemory_47 ?_
        refine k_putf (ws' := [(r, .inr (2, [.ref qi, .ref qs, .ref qk, .ref qt, .int lod, .int used, .int lod, .int uod])), (qi, .inr (1, [.ref ai])), (ai, .inl (cI, N, .inl fi)), (qs, .inr (1, [.ref aS])), (aS, .inl (cI, K, .inl fs)), (qk, .inr (1, [.ref ak])), (ak, .inl (cI, 6, .inl x)), (qt, .inr (1, [.ref aT])), (aT, .inl (cI, 8, .inl ft))]) (ci := 2) (T := TX1) (N := 8) (C := RX1) (ty := .int) hx hb hts inX1 tyX1 tyX1_ok nmX1 hown hK hP hD hS 0 rfl rfl 4 (by decide) fl29 rfl rfl rfl rfl rfl (Nat.le_of_ble_eq_true rfl) dX1_dropMemory_50 rfl (fun H locs hP hD hS => ?_)
        refine lv_aload_n hx hb dX1_dropMemory_53 rfl (lv_at hl 1 rfl) ?_
        refine lv_aload_n hx hb dX1_dropMemory_54 rfl (lv_at hl 1 rfl) ?_
        refine k_get (ci := 2) (T := TX1) (N := 8) (C := RX1) hx hb hts inX1 hown hK hP 0 rfl rfl 7 (by decide) fl50 rfl rfl dX1_dropMemory_55 ?_
        refine k_putf (ws' := [(r, .inr (2, [.ref qi, .ref qs, .ref qk, .ref qt, .int lod, .int uod, .int lod, .int uod])), (qi, .inr (1, [.ref ai])), (ai, .inl (cI, N, .inl fi)), (qs, .inr (1, [.ref aS])), (aS, .inl (cI, K, .inl fs)), (qk, .inr (1, [.ref ak])), (ak, .inl (cI, 6, .inl x)), (qt, .inr (1, [.ref aT])), (aT, .inl (cI, 8, .inl ft))]) (ci := 2) (T := TX1) (N := 8) (C := RX1) (ty := .int) hx hb hts inX1 tyX1 tyX1_ok nmX1 hown hK hP hD hS 0 rfl rfl 5 (by decide) fl47 rfl rfl rfl rfl rfl (Nat.le_of_ble_eq_true rfl) dX1_dropMemory_58 rfl (fun H locs hP hD hS => ?_)
        exact k_vretW hx hb hr hlocks hP hS (by rw [← hi, loopE_exit ((k_le1 hlast).mp c1)]; rfl) dX1_dropMemory_61
      · refine lv_aload_n hx hb dX1_dropMemory_15 rfl (lv_at hl 1 rfl) ?_
        refine lv_iload_n hx hb dX1_dropMemory_16 rfl (lv_at hl 0 rfl) ?_
        refine k_afP (va_runV (rest := []) ⟨hx, hb, hml, hown, hts⟩ (m_X1_kindOf l dC dI cI cJ r qi ai qs aS qk ak qt aT N K fi fs x ft last used lod uod number (by first | assumption | decide) (by first | assumption | decide)) (cwV 1 hts gX1_dropMemory_X1_kindOf rfl rfl rfl hdv_X1_kindOf ⟨Nat.le_of_ble_eq_true rfl, Nat.le_of_ble_eq_true rfl⟩) (k_preVP hK hP [0, 1, 2, 3, 4, 5, 6, 7, 8] rfl 0 rfl rfl) rfl rfl hl.1 rfl (lv_room (Nat.le_of_ble_eq_true rfl)) dX1_dropMemory_17 ⟨Nat.le_of_ble_eq_true rfl, Nat.le_of_ble_eq_true rfl⟩) ?_
        refine lv_istore_n (lv' := [(2, .int (rw_kindOf N K fi fs number)), (1, .int number), (0, .ref r)]) hx hb dX1_dropMemory_20 rfl hl (by decide) rfl (fun ls hl => ?_)
        refine lv_aload_n hx hb dX1_dropMemory_21 rfl (lv_at hl 2 rfl) ?_
        refine k_get (ci := 2) (T := TX1) (N := 8) (C := RX1) hx hb hts inX1 hown hK hP 0 rfl rfl 2 (by decide) fl23 rfl rfl dX1_dropMemory_22 ?_
        refine lv_iload_n hx hb dX1_dropMemory_25 rfl (lv_at hl 0 rfl) ?_
        refine lv_aload_n hx hb dX1_dropMemory_26 rfl (lv_at hl 2 rfl) ?_
        refine k_get (ci := 2) (T := TX1) (N := 8) (C := RX1) hx hb hts inX1 hown hK hP 0 rfl rfl 2 (by decide) fl23 rfl rfl dX1_dropMemory_27 ?_
        refine lv_iload_n hx hb dX1_dropMemory_30 rfl (lv_at hl 0 rfl) ?_
        refine k_afP (va_runV (rest := [.int (rw_kindOf N K fi fs number), .ref qk]) ⟨hx, hb, hml, hown, hts⟩ (m_X0_at l dC dI cI cJ qk ak 6 x (rw_kindOf N K fi fs number) (by first | assumption | decide)) (cwV 1 hts gX1_dropMemory_X0_at rfl rfl rfl hdv_X0_at ⟨Nat.le_of_ble_eq_true rfl, Nat.le_of_ble_eq_true rfl⟩) (k_preVP hK hP [5, 6] rfl 5 rfl rfl) rfl rfl hl.1 rfl (lv_room (Nat.le_of_ble_eq_true rfl)) dX1_dropMemory_31 ⟨Nat.le_of_ble_eq_true rfl, Nat.le_of_ble_eq_true rfl⟩) ?_
        refine lv_iconst (v := 1) hx hb dX1_dropMemory_34 (by decide) ?_
        refine lv_isub hx hb dX1_dropMemory_35 ?_
        refine k_afW (wc := [(qk, .inr (1, [.ref ak])), (ak, .inl (cI, 6, .inl x))]) (ws' := [(r, .inr (2, [.ref qi, .ref qs, .ref qk, .ref qt, .int last, .int used, .int lod, .int uod])), (qi, .inr (1, [.ref ai])), (ai, .inl (cI, N, .inl fi)), (qs, .inr (1, [.ref aS])), (aS, .inl (cI, K, .inl fs)), (qk, .inr (1, [.ref ak])), (ak, .inl (cI, 6, .inl (ca_set 6 x (rw_kindOf N K fi fs number) ((ca_at 6 x (rw_kindOf N K fi fs number)) - 1)))), (qt, .inr (1, [.ref aT])), (aT, .inl (cI, 8, .inl ft))]) (va_runV (rest := []) ⟨hx, hb, hml, hown, hts⟩ (m_X0_set l dC dI cI cJ qk ak 6 x (rw_kindOf N K fi fs number) ((ca_at 6 x (rw_kindOf N K fi fs number)) - 1) (by first | assumption | decide)) (cwV 2 hts gX1_dropMemory_X0_set rfl rfl rfl hdv_X0_set ⟨Nat.le_of_ble_eq_true rfl, Nat.le_of_ble_eq_true rfl⟩) (k_preVW hK hP hD [5, 6] rfl rfl 5 rfl rfl) rfl rfl hl.1 rfl (lv_room (Nat.le_of_ble_eq_true rfl)) dX1_dropMemory_36 ⟨Nat.le_of_ble_eq_true rfl, Nat.le_of_ble_eq_true rfl⟩) hP hD hS [5, 6] rfl rfl rfl rfl (fun H locs hP hD hS => ?_)
        refine lv_iinc (v := number + 1) (lv' := [(1, .int (number + 1)), (2, .int (rw_kindOf N K fi fs number)), (0, .ref r)]) hx hb dX1_dropMemory_39 hl (k := 1) rfl rfl (by decide) rfl (fun ls hl => ?_)
        refine lv_goto (tgt := 7) hx hb dX1_dropMemory_42 (by decide) ?_
        exact ih (number + 1) (ca_set 6 x (rw_kindOf N K fi fs number) ((ca_at 6 x (rw_kindOf N K fi fs number)) - 1)) _ _ ls (by rw [loopE_go (k_le1n hlast c1) rfl] at hi; exact hi) (k_meas (k_le1n hlast c1) hm) hP hD hS (lv_sub hl [0, 2] rfl)
  exact loop7 _ (lod + 1) fk _ _ ls rfl (Nat.lt_succ_self _) hP hD hS (lv_sub hl [0, 1] rfl)
set_option maxHeartbeats 4000000 in
set_option maxRecDepth 100000 in
theorem m_X1_clear (l : Launch) (dC : Nat → ClassId) (dI : Nat → Nat → Nat) (cI cJ : ClassId) (r : Nat) (qi : Nat) (ai : Nat) (qs : Nat) (aS : Nat) (qk : Nat) (ak : Nat) (qt : Nat) (aT : Nat) (N : Nat) (K : Nat) (fi : Nat → Int32) (fs : Nat → Int32) (fk : Nat → Int32) (ft : Nat → Int32) (last : Int32) (used : Int32) (lod : Int32) (uod : Int32) (hN : N < 2 ^ 31) (hK9 : K < 2 ^ 31) (hlast : last < 2147483647) : cW l yX1_clear wsX1_clear ({ frames := 3, cells := 0, slots := 0, locals := 64 }) dC dI cI cJ [(r, .inr (2, [.ref qi, .ref qs, .ref qk, .ref qt, .int last, .int used, .int lod, .int uod])), (qi, .inr (1, [.ref ai])), (ai, .inl (cI, N, .inl fi)), (qs, .inr (1, [.ref aS])), (aS, .inl (cI, K, .inl fs)), (qk, .inr (1, [.ref ak])), (ak, .inl (cI, 6, .inl fk)), (qt, .inr (1, [.ref aT])), (aT, .inl (cI, 8, .inl ft))] [(r, .inr (2, [.ref qi, .ref qs, .ref qk, .ref qt, .int 0, .int 0, .int 0, .int 0])), (qi, .inr (1, [.ref ai])), (ai, .inl (cI, N, .inl fi)), (qs, .inr (1, [.ref aS])), (aS, .inl (cI, K, .inl fs)), (qk, .inr (1, [.ref ak])), (ak, .inl (cI, 6, .inl (rw_drop N K fi fs fk last 0))), (qt, .inr (1, [.ref aT])), (aT, .inl (cI, 8, .inl ft))] [r, qi, ai, qs, aS, qk, ak, qt, aT] [.ref r] none := by
  refine Met.ofW (cc := cX1_clear) (maxL := 1) (ret := none) (by decide) rfl ?_
  intro p e s m args below meth c s₁ B hml hv
  obtain ⟨rfl, hP, hK, hD0⟩ := hv
  have hx := B.exec
  have hb := B.bytes
  have hr := B.returns
  have hts := atoms_spec (ws := wsX1_clear) B.pre
  have hown : s.vm.findClass RX1 = some m.cls := findClass_of_methodNamed B.named
  have hlocks := B.notSynchronized
  have inX1 : ∀ w ∈ wsX10, w ∈ wsX1_clear := fun w h => (List.mem_cons_of_mem _ (List.mem_append_left _ (List.mem_append_right _ h)))
  have fl50 := hts (.fieldLink RX1 50 "StockLog$Rows" "usedOnDisk" "I") (by decide +kernel)
  have fl75 := hts (.fieldLink RX1 75 "StockLog$Rows" "lastOnDisk" "I") (by decide +kernel)
  have hD : va_D (mA [r, qi, ai, qs, aS, qk, ak, qt, aT]) [(r, .inr (2, [.ref qi, .ref qs, .ref qk, .ref qt, .int last, .int used, .int lod, .int uod])), (qi, .inr (1, [.ref ai])), (ai, .inl (cI, N, .inl fi)), (qs, .inr (1, [.ref aS])), (aS, .inl (cI, K, .inl fs)), (qk, .inr (1, [.ref ak])), (ak, .inl (cI, 6, .inl fk)), (qt, .inr (1, [.ref aT])), (aT, .inl (cI, 8, .inl ft))] := k_Dw hD0 rfl
  have hS : va_S (mA [r, qi, ai, qs, aS, qk, ak, qt, aT]) s.heap s.heap [] := va_S.rf
  have hl := lv_entry ([.ref r]) (n := 1) (Nat.le_of_ble_eq_true rfl)
  rw [lg_entry_eq]
  generalize (lg_sl ([.ref r]) ++ List.replicate (1 - (lg_sl ([.ref r])).length) Slot.unset).toArray = ls at hl ⊢
  have hl : lv_has ls 1 [(0, .ref r)] := hl
  refine lv_aload_n hx hb dX1_clear_0 rfl (lv_at hl 0 rfl) ?_
  refine lv_iconst (v := 0) hx hb dX1_clear_1 (by decide) ?_
  refine k_putf (ws' := [(r, .inr (2, [.ref qi, .ref qs, .ref qk, .ref qt, .int last, .int used, .int 0, .int uod])), (qi, .inr (1, [.ref ai])), (ai, .inl (cI, N, .inl fi)), (qs, .inr (1, [.ref aS])), (aS, .inl (cI, K, .inl fs)), (qk, .inr (1, [.ref ak])), (ak, .inl (cI, 6, .inl fk)), (qt, .inr (1, [.ref aT])), (aT, .inl (cI, 8, .inl ft))]) (ci := 2) (T := TX1) (N := 8) (C := RX1) (ty := .int) hx hb hts inX1 tyX1 tyX1_ok nmX1 hown hK hP hD hS 0 rfl rfl 6 (by decide) fl75 rfl rfl rfl rfl rfl (Nat.le_of_ble_eq_true rfl) dX1_clear_2 rfl (fun H locs hP hD hS => ?_)
  refine lv_aload_n hx hb dX1_clear_5 rfl (lv_at hl 0 rfl) ?_
  refine lv_iconst (v := 0) hx hb dX1_clear_6 (by decide) ?_
  refine k_putf (ws' := [(r, .inr (2, [.ref qi, .ref qs, .ref qk, .ref qt, .int last, .int used, .int 0, .int 0])), (qi, .inr (1, [.ref ai])), (ai, .inl (cI, N, .inl fi)), (qs, .inr (1, [.ref aS])), (aS, .inl (cI, K, .inl fs)), (qk, .inr (1, [.ref ak])), (ak, .inl (cI, 6, .inl fk)), (qt, .inr (1, [.ref aT])), (aT, .inl (cI, 8, .inl ft))]) (ci := 2) (T := TX1) (N := 8) (C := RX1) (ty := .int) hx hb hts inX1 tyX1 tyX1_ok nmX1 hown hK hP hD hS 0 rfl rfl 7 (by decide) fl50 rfl rfl rfl rfl rfl (Nat.le_of_ble_eq_true rfl) dX1_clear_7 rfl (fun H locs hP hD hS => ?_)
  refine lv_aload_n hx hb dX1_clear_10 rfl (lv_at hl 0 rfl) ?_
  refine k_afW (wc := [(r, .inr (2, [.ref qi, .ref qs, .ref qk, .ref qt, .int last, .int used, .int 0, .int 0])), (qi, .inr (1, [.ref ai])), (ai, .inl (cI, N, .inl fi)), (qs, .inr (1, [.ref aS])), (aS, .inl (cI, K, .inl fs)), (qk, .inr (1, [.ref ak])), (ak, .inl (cI, 6, .inl fk)), (qt, .inr (1, [.ref aT])), (aT, .inl (cI, 8, .inl ft))]) (ws' := [(r, .inr (2, [.ref qi, .ref qs, .ref qk, .ref qt, .int 0, .int 0, .int 0, .int 0])), (qi, .inr (1, [.ref ai])), (ai, .inl (cI, N, .inl fi)), (qs, .inr (1, [.ref aS])), (aS, .inl (cI, K, .inl fs)), (qk, .inr (1, [.ref ak])), (ak, .inl (cI, 6, .inl (rw_drop N K fi fs fk last 0))), (qt, .inr (1, [.ref aT])), (aT, .inl (cI, 8, .inl ft))]) (va_runV (rest := []) ⟨hx, hb, hml, hown, hts⟩ (m_X1_dropMemory l dC dI cI cJ r qi ai qs aS qk ak qt aT N K fi fs fk ft last used 0 0 (by first | assumption | decide) (by first | assumption | decide) (by first | assumption | decide)) (cwV 0 hts gX1_clear_X1_dropMemory rfl rfl rfl hdv_X1_dropMemory ⟨Nat.le_of_ble_eq_true rfl, Nat.le_of_ble_eq_true rfl⟩) (k_preVW hK hP hD [0, 1, 2, 3, 4, 5, 6, 7, 8] rfl rfl 0 rfl rfl) rfl rfl hl.1 rfl (lv_room (Nat.le_of_ble_eq_true rfl)) dX1_clear_11 ⟨Nat.le_of_ble_eq_true rfl, Nat.le_of_ble_eq_true rfl⟩) hP hD hS [0, 1, 2, 3, 4, 5, 6, 7, 8] rfl rfl rfl rfl (fun H locs hP hD hS => ?_)
  exact k_vretW hx hb hr hlocks hP hS rfl dX1_clear_14
set_option maxHeartbeats 4000000 in
set_option maxRecDepth 100000 in
theorem m_X1_fillState (l : Launch) (dC : Nat → ClassId) (dI : Nat → Nat → Nat) (cI cJ : ClassId) (r : Nat) (qi : Nat) (ai : Nat) (qs : Nat) (aS : Nat) (qk : Nat) (ak : Nat) (qt : Nat) (aT : Nat) (N : Nat) (K : Nat) (fi : Nat → Int32) (fs : Nat → Int32) (fk : Nat → Int32) (ft : Nat → Int32) (last : Int32) (used : Int32) (lod : Int32) (uod : Int32) (hN : N < 2 ^ 31) (hK9 : K < 2 ^ 31) : cW l yX1_fillState wsX1_fillState ({ frames := 2, cells := 0, slots := 0, locals := 47 }) dC dI cI cJ [(r, .inr (2, [.ref qi, .ref qs, .ref qk, .ref qt, .int last, .int used, .int lod, .int uod])), (qi, .inr (1, [.ref ai])), (ai, .inl (cI, N, .inl fi)), (qs, .inr (1, [.ref aS])), (aS, .inl (cI, K, .inl fs)), (qk, .inr (1, [.ref ak])), (ak, .inl (cI, 6, .inl fk)), (qt, .inr (1, [.ref aT])), (aT, .inl (cI, 8, .inl ft))] [(r, .inr (2, [.ref qi, .ref qs, .ref qk, .ref qt, .int last, .int used, .int lod, .int uod])), (qi, .inr (1, [.ref ai])), (ai, .inl (cI, N, .inl fi)), (qs, .inr (1, [.ref aS])), (aS, .inl (cI, K, .inl fs)), (qk, .inr (1, [.ref ak])), (ak, .inl (cI, 6, .inl fk)), (qt, .inr (1, [.ref aT])), (aT, .inl (cI, 8, .inl (rw_fill ft fk)))] [r, qi, ai, qs, aS, qk, ak, qt, aT] [.ref r] none := by
  refine Met.ofW (cc := cX1_fillState) (maxL := 2) (ret := none) (by decide) rfl ?_
  intro p e s m args below meth c s₁ B hml hv
  obtain ⟨rfl, hP, hK, hD0⟩ := hv
  have hx := B.exec
  have hb := B.bytes
  have hr := B.returns
  have hts := atoms_spec (ws := wsX1_fillState) B.pre
  have hown : s.vm.findClass RX1 = some m.cls := findClass_of_methodNamed B.named
  have hlocks := B.notSynchronized
  have inX1 : ∀ w ∈ wsX10, w ∈ wsX1_fillState := fun w h => (List.mem_cons_of_mem _ (List.mem_append_left _ (List.mem_append_right _ h)))
  have fl23 := hts (.fieldLink RX1 23 "StockLog$Rows" "ofKind" "LStockLog$Cells;") (by decide +kernel)
  have fl26 := hts (.fieldLink RX1 26 "StockLog$Rows" "state" "LStockLog$Cells;") (by decide +kernel)
  have hD : va_D (mA [r, qi, ai, qs, aS, qk, ak, qt, aT]) [(r, .inr (2, [.ref qi, .ref qs, .ref qk, .ref qt, .int last, .int used, .int lod, .int uod])), (qi, .inr (1, [.ref ai])), (ai, .inl (cI, N, .inl fi)), (qs, .inr (1, [.ref aS])), (aS, .inl (cI, K, .inl fs)), (qk, .inr (1, [.ref ak])), (ak, .inl (cI, 6, .inl fk)), (qt, .inr (1, [.ref aT])), (aT, .inl (cI, 8, .inl ft))] := k_Dw hD0 rfl
  have hS : va_S (mA [r, qi, ai, qs, aS, qk, ak, qt, aT]) s.heap s.heap [] := va_S.rf
  have hl := lv_entry ([.ref r]) (n := 2) (Nat.le_of_ble_eq_true rfl)
  rw [lg_entry_eq]
  generalize (lg_sl ([.ref r]) ++ List.replicate (2 - (lg_sl ([.ref r])).length) Slot.unset).toArray = ls at hl ⊢
  have hl : lv_has ls 2 [(0, .ref r)] := hl
  refine lv_iconst (v := 1) hx hb dX1_fillState_0 (by decide) ?_
  refine lv_istore_n (lv' := [(1, .int 1), (0, .ref r)]) hx hb dX1_fillState_1 rfl hl (by decide) rfl (fun ls hl => ?_)
  have loop2 : ∀ (n : Nat) (kind : Int32) (x : Nat → Int32) (H : Heap) (locs : List Loc) (ls : Array Slot), (loopE 5 (fun kind (x : Nat → Int32) => (.inl (ca_setNum 8 x (2 * (kind - 1)) 2 (ca_at 6 fk kind)) : (Nat → Int32) ⊕ (Nat → Int32))) id kind x = rw_fill ft fk) → ((5 : Int32).toInt - kind.toInt).toNat < n → va_P (dC, dI) vwCl [(r, .inr (2, [.ref qi, .ref qs, .ref qk, .ref qt, .int last, .int used, .int lod, .int uod])), (qi, .inr (1, [.ref ai])), (ai, .inl (cI, N, .inl fi)), (qs, .inr (1, [.ref aS])), (aS, .inl (cI, K, .inl fs)), (qk, .inr (1, [.ref ak])), (ak, .inl (cI, 6, .inl fk)), (qt, .inr (1, [.ref aT])), (aT, .inl (cI, 8, .inl x))] H → va_D (mA [r, qi, ai, qs, aS, qk, ak, qt, aT]) [(r, .inr (2, [.ref qi, .ref qs, .ref qk, .ref qt, .int last, .int used, .int lod, .int uod])), (qi, .inr (1, [.ref ai])), (ai, .inl (cI, N, .inl fi)), (qs, .inr (1, [.ref aS])), (aS, .inl (cI, K, .inl fs)), (qk, .inr (1, [.ref ak])), (ak, .inl (cI, 6, .inl fk)), (qt, .inr (1, [.ref aT])), (aT, .inl (cI, 8, .inl x))] → va_S (mA [r, qi, ai, qs, aS, qk, ak, qt, aT]) s.heap H locs → lv_has ls 2 [(1, .int kind), (0, .ref r)] → W p l e (headSpec wsX1_fillState ({ frames := 2, cells := 0, slots := 0, locals := 47 })).room s m ([.ref r] : List Value).toArray below meth c H locs 0 0 (MQ below (mQ dC dI [(r, .inr (2, [.ref qi, .ref qs, .ref qk, .ref qt, .int last, .int used, .int lod, .int uod])), (qi, .inr (1, [.ref ai])), (ai, .inl (cI, N, .inl fi)), (qs, .inr (1, [.ref aS])), (aS, .inl (cI, K, .inl fs)), (qk, .inr (1, [.ref ak])), (ak, .inl (cI, 6, .inl fk)), (qt, .inr (1, [.ref aT])), (aT, .inl (cI, 8, .inl (rw_fill ft fk)))] [r, qi, ai, qs, aS, qk, ak, qt, aT] none) ([.ref r] : List Value).toArray s 0 0 (mA [r, qi, ai, qs, aS, qk, ak, qt, aT])) (F0 m 2 ls []) := by
    intro n
    induction n with
    | zero => intro kind x H locs ls hi hm; exact absurd hm (Nat.not_lt_zero _)
    | succ n ih =>
      intro kind x H locs ls hi hm hP hD hS hl
      refine lv_iload_n hx hb dX1_fillState_2 rfl (lv_at hl 0 rfl) ?_
      refine lv_iconst (v := 5) hx hb dX1_fillState_3 (by decide) ?_
      refine lv_icmp_ge (tgt := 34) hx hb dX1_fillState_4 (by decide) (fun c1 => ?_) (fun c1 => ?_)
      · exact k_vretW hx hb hr hlocks hP hS (by rw [← hi, loopE_exit c1]; rfl) dX1_fillState_34
      · refine lv_aload_n hx hb dX1_fillState_7 rfl (lv_at hl 1 rfl) ?_
        refine k_get (ci := 2) (T := TX1) (N := 8) (C := RX1) hx hb hts inX1 hown hK hP 0 rfl rfl 3 (by decide) fl26 rfl rfl dX1_fillState_8 ?_
        refine lv_iconst (v := 2) hx hb dX1_fillState_11 (by decide) ?_
        refine lv_iload_n hx hb dX1_fillState_12 rfl (lv_at hl 0 rfl) ?_
        refine lv_iconst (v := 1) hx hb dX1_fillState_13 (by decide) ?_
        refine lv_isub hx hb dX1_fillState_14 ?_
        refine lv_imul hx hb dX1_fillState_15 ?_
        refine lv_iconst (v := 2) hx hb dX1_fillState_16 (by decide) ?_
        refine lv_aload_n hx hb dX1_fillState_17 rfl (lv_at hl 1 rfl) ?_
        refine k_get (ci := 2) (T := TX1) (N := 8) (C := RX1) hx hb hts inX1 hown hK hP 0 rfl rfl 2 (by decide) fl23 rfl rfl dX1_fillState_18 ?_
        refine lv_iload_n hx hb dX1_fillState_21 rfl (lv_at hl 0 rfl) ?_
        refine k_afP (va_runV (rest := [.int 2, .int (2 * (kind - 1)), .ref qt]) ⟨hx, hb, hml, hown, hts⟩ (m_X0_at l dC dI cI cJ qk ak 6 fk kind (by first | assumption | decide)) (cwV 1 hts gX1_fillState_X0_at rfl rfl rfl hdv_X0_at ⟨Nat.le_of_ble_eq_true rfl, Nat.le_of_ble_eq_true rfl⟩) (k_preVP hK hP [5, 6] rfl 5 rfl rfl) rfl rfl hl.1 rfl (lv_room (Nat.le_of_ble_eq_true rfl)) dX1_fillState_22 ⟨Nat.le_of_ble_eq_true rfl, Nat.le_of_ble_eq_true rfl⟩) ?_
        refine k_afW (wc := [(qt, .inr (1, [.ref aT])), (aT, .inl (cI, 8, .inl x))]) (ws' := [(r, .inr (2, [.ref qi, .ref qs, .ref qk, .ref qt, .int last, .int used, .int lod, .int uod])), (qi, .inr (1, [.ref ai])), (ai, .inl (cI, N, .inl fi)), (qs, .inr (1, [.ref aS])), (aS, .inl (cI, K, .inl fs)), (qk, .inr (1, [.ref ak])), (ak, .inl (cI, 6, .inl fk)), (qt, .inr (1, [.ref aT])), (aT, .inl (cI, 8, .inl (ca_setNum 8 x (2 * (kind - 1)) 2 (ca_at 6 fk kind))))]) (va_runV (rest := []) ⟨hx, hb, hml, hown, hts⟩ (m_X0_setNumber l dC dI cI cJ qt aT 8 x (2 * (kind - 1)) 2 (ca_at 6 fk kind) (by first | assumption | decide)) (cwV 3 hts gX1_fillState_X0_setNumber rfl rfl rfl hdv_X0_setNumber ⟨Nat.le_of_ble_eq_true rfl, Nat.le_of_ble_eq_true rfl⟩) (k_preVW hK hP hD [7, 8] rfl rfl 7 rfl rfl) rfl rfl hl.1 rfl (lv_room (Nat.le_of_ble_eq_true rfl)) dX1_fillState_25 ⟨Nat.le_of_ble_eq_true rfl, Nat.le_of_ble_eq_true rfl⟩) hP hD hS [7, 8] rfl rfl rfl rfl (fun H locs hP hD hS => ?_)
        refine lv_iinc (v := kind + 1) (lv' := [(1, .int (kind + 1)), (0, .ref r)]) hx hb dX1_fillState_28 hl (k := 0) rfl rfl (by decide) rfl (fun ls hl => ?_)
        refine lv_goto (tgt := 2) hx hb dX1_fillState_31 (by decide) ?_
        exact ih (kind + 1) (ca_setNum 8 x (2 * (kind - 1)) 2 (ca_at 6 fk kind)) _ _ ls (by rw [loopE_go c1 rfl] at hi; exact hi) (k_meas c1 hm) hP hD hS (lv_sub hl [0, 1] rfl)
  exact loop2 _ 1 ft _ _ ls rfl (Nat.lt_succ_self _) hP hD hS (lv_sub hl [0, 1] rfl)
set_option maxHeartbeats 4000000 in
set_option maxRecDepth 100000 in
theorem m_X1_isState (l : Launch) (dC : Nat → ClassId) (dI : Nat → Nat → Nat) (cI cJ : ClassId) (r : Nat) (qi : Nat) (ai : Nat) (qs : Nat) (aS : Nat) (qk : Nat) (ak : Nat) (qt : Nat) (aT : Nat) (N : Nat) (K : Nat) (fi : Nat → Int32) (fs : Nat → Int32) (fk : Nat → Int32) (ft : Nat → Int32) (last : Int32) (used : Int32) (lod : Int32) (uod : Int32) (hb9 : Nat) (ab : Nat) (M : Nat) (g : Nat → Int32) (place : Int32) (length : Int32) (hN : N < 2 ^ 31) (hK9 : K < 2 ^ 31) (hM : M < 2 ^ 31) : cP l yX1_isState wsX1_isState ({ frames := 2, cells := 0, slots := 0, locals := 45 }) dC dI cI cJ [(r, .inr (2, [.ref qi, .ref qs, .ref qk, .ref qt, .int last, .int used, .int lod, .int uod])), (qi, .inr (1, [.ref ai])), (ai, .inl (cI, N, .inl fi)), (qs, .inr (1, [.ref aS])), (aS, .inl (cI, K, .inl fs)), (qk, .inr (1, [.ref ak])), (ak, .inl (cI, 6, .inl fk)), (qt, .inr (1, [.ref aT])), (aT, .inl (cI, 8, .inl ft)), (hb9, .inr (1, [.ref ab])), (ab, .inl (cI, M, .inl g))] [.ref r, .ref hb9, .int place, .int length] (rw_isState M g fk place length) := by
  refine Met.ofW (cc := cX1_isState) (maxL := 5) (ret := (some .boolean)) (by decide) rfl ?_
  intro p e s m args below meth c s₁ B hml hv
  obtain ⟨rfl, hP, hK⟩ := hv
  have hx := B.exec
  have hb := B.bytes
  have hr := B.returns
  have hts := atoms_spec (ws := wsX1_isState) B.pre
  have hown : s.vm.findClass RX1 = some m.cls := findClass_of_methodNamed B.named
  have hlocks := B.notSynchronized
  have inX1 : ∀ w ∈ wsX10, w ∈ wsX1_isState := fun w h => (List.mem_cons_of_mem _ (List.mem_append_left _ (List.mem_append_right _ h)))
  have fl23 := hts (.fieldLink RX1 23 "StockLog$Rows" "ofKind" "LStockLog$Cells;") (by decide +kernel)
  have hl := lv_entry ([.ref r, .ref hb9, .int place, .int length]) (n := 5) (Nat.le_of_ble_eq_true rfl)
  rw [lg_entry_eq]
  generalize (lg_sl ([.ref r, .ref hb9, .int place, .int length]) ++ List.replicate (5 - (lg_sl ([.ref r, .ref hb9, .int place, .int length])).length) Slot.unset).toArray = ls at hl ⊢
  have hl : lv_has ls 5 [(0, .ref r), (1, .ref hb9), (2, .int place), (3, .int length)] := hl
  refine lv_iload_n hx hb dX1_isState_0 rfl (lv_at hl 3 rfl) ?_
  refine lv_bipush (v := 8) hx hb dX1_isState_1 (by decide) ?_
  refine lv_icmp_eq (tgt := 8) hx hb dX1_isState_3 (by decide) (fun c1 => ?_) (fun c1 => ?_)
  · refine lv_iconst (v := 1) hx hb dX1_isState_8 (by decide) ?_
    refine lv_istore (lv' := [(4, .int 1), (0, .ref r), (1, .ref hb9), (2, .int place), (3, .int length)]) hx hb dX1_isState_9 hl (by decide) rfl (fun ls hl => ?_)
    have loop11 : ∀ (n : Nat) (kind : Int32) (ls : Array Slot), (loopE 5 (fun kind (_ : Unit) => if ca_num M g (place + (2 * (kind - 1))) 2 = ca_at 6 fk kind then (.inl () : Unit ⊕ Int32) else .inr 0) (fun _ => 1) kind () = rw_isState M g fk place length) → ((5 : Int32).toInt - kind.toInt).toNat < n → lv_has ls 5 [(4, .int kind), (0, .ref r), (1, .ref hb9), (2, .int place), (3, .int length)] → W p l e (headSpec wsX1_isState ({ frames := 2, cells := 0, slots := 0, locals := 45 })).room s m ([.ref r, .ref hb9, .int place, .int length] : List Value).toArray below meth c s.heap [] 0 0 (MQ below (vp_Si (fun x => x = rw_isState M g fk place length)) ([.ref r, .ref hb9, .int place, .int length] : List Value).toArray s 0 0 (fun _ => False)) (F0 m 11 ls []) := by
      intro n
      induction n with
      | zero => intro kind ls hi hm; exact absurd hm (Nat.not_lt_zero _)
      | succ n ih =>
        intro kind ls hi hm hl
        refine lv_iload hx hb dX1_isState_11 (lv_at hl 0 rfl) ?_
        refine lv_iconst (v := 5) hx hb dX1_isState_13 (by decide) ?_
        refine lv_icmp_ge (tgt := 50) hx hb dX1_isState_14 (by decide) (fun c2 => ?_) (fun c2 => ?_)
        · refine lv_iconst (v := 1) hx hb dX1_isState_50 (by decide) ?_
          exact k_zretP (ret := none) hx hb hr hlocks (by rw [← hi, loopE_exit c2]) (Or.inr rfl) rfl dX1_isState_51
        · refine lv_aload_n hx hb dX1_isState_17 rfl (lv_at hl 2 rfl) ?_
          refine lv_iload_n hx hb dX1_isState_18 rfl (lv_at hl 3 rfl) ?_
          refine lv_iconst (v := 2) hx hb dX1_isState_19 (by decide) ?_
          refine lv_iload hx hb dX1_isState_20 (lv_at hl 0 rfl) ?_
          refine lv_iconst (v := 1) hx hb dX1_isState_22 (by decide) ?_
          refine lv_isub hx hb dX1_isState_23 ?_
          refine lv_imul hx hb dX1_isState_24 ?_
          refine lv_iadd hx hb dX1_isState_25 ?_
          refine lv_iconst (v := 2) hx hb dX1_isState_26 (by decide) ?_
          refine k_afP (va_runV (rest := []) ⟨hx, hb, hml, hown, hts⟩ (m_X0_numberAt l dC dI cI cJ hb9 ab M g (place + (2 * (kind - 1))) 2 (by first | assumption | decide)) (cwV 2 hts gX1_isState_X0_numberAt rfl rfl rfl hdv_X0_numberAt ⟨Nat.le_of_ble_eq_true rfl, Nat.le_of_ble_eq_true rfl⟩) (k_preVP hK hP [9, 10] rfl 9 rfl rfl) rfl rfl hl.1 rfl (lv_room (Nat.le_of_ble_eq_true rfl)) dX1_isState_27 ⟨Nat.le_of_ble_eq_true rfl, Nat.le_of_ble_eq_true rfl⟩) ?_
          refine lv_aload_n hx hb dX1_isState_30 rfl (lv_at hl 1 rfl) ?_
          refine k_get (ci := 2) (T := TX1) (N := 8) (C := RX1) hx hb hts inX1 hown hK hP 0 rfl rfl 2 (by decide) fl23 rfl rfl dX1_isState_31 ?_
          refine lv_iload hx hb dX1_isState_34 (lv_at hl 0 rfl) ?_
          refine k_afP (va_runV (rest := [.int (ca_num M g (place + (2 * (kind - 1))) 2)]) ⟨hx, hb, hml, hown, hts⟩ (m_X0_at l dC dI cI cJ qk ak 6 fk kind (by first | assumption | decide)) (cwV 1 hts gX1_isState_X0_at rfl rfl rfl hdv_X0_at ⟨Nat.le_of_ble_eq_true rfl, Nat.le_of_ble_eq_true rfl⟩) (k_preVP hK hP [5, 6] rfl 5 rfl rfl) rfl rfl hl.1 rfl (lv_room (Nat.le_of_ble_eq_true rfl)) dX1_isState_36 ⟨Nat.le_of_ble_eq_true rfl, Nat.le_of_ble_eq_true rfl⟩) ?_
          refine lv_icmp_eq (tgt := 44) hx hb dX1_isState_39 (by decide) (fun c3 => ?_) (fun c3 => ?_)
          · refine lv_iinc (v := kind + 1) (lv' := [(4, .int (kind + 1)), (0, .ref r), (1, .ref hb9), (2, .int place), (3, .int length)]) hx hb dX1_isState_44 hl (k := 0) rfl rfl (by decide) rfl (fun ls hl => ?_)
            refine lv_goto (tgt := 11) hx hb dX1_isState_47 (by decide) ?_
            exact ih (kind + 1) ls (by rw [loopE_go c2 (if_pos c3)] at hi; exact hi) (k_meas c2 hm) (lv_sub hl [0, 1, 2, 3, 4] rfl)
          · refine lv_iconst (v := 0) hx hb dX1_isState_42 (by decide) ?_
            exact k_zretP (ret := none) hx hb hr hlocks (by rw [← hi, loopE_ret c2 (if_neg c3)]) (Or.inl rfl) rfl dX1_isState_43
    exact loop11 _ 1 ls (by simp only [rw_isState, if_pos c1]) (Nat.lt_succ_self _) (lv_sub hl [0, 1, 2, 3, 4] rfl)
  · refine lv_iconst (v := 0) hx hb dX1_isState_6 (by decide) ?_
    exact k_zretP (ret := none) hx hb hr hlocks (by simp only [rw_isState, if_neg c1]) (Or.inl rfl) rfl dX1_isState_7
end
section
set_option maxHeartbeats 4000000 in
set_option maxRecDepth 100000 in
theorem m_X1_judgeNext (l : Launch) (dC : Nat → ClassId) (dI : Nat → Nat → Nat) (cI cJ : ClassId) (r : Nat) (qi : Nat) (ai : Nat) (qs : Nat) (aS : Nat) (qk : Nat) (ak : Nat) (qt : Nat) (aT : Nat) (N : Nat) (K : Nat) (fi : Nat → Int32) (fs : Nat → Int32) (fk : Nat → Int32) (ft : Nat → Int32) (last : Int32) (used : Int32) (lod : Int32) (uod : Int32) (hb9 : Nat) (ab : Nat) (M : Nat) (g : Nat → Int32) (hN : N < 2 ^ 31) (hK9 : K < 2 ^ 31) (hM : M < 2 ^ 31) : cP l yX1_judgeNext wsX1_judgeNext ({ frames := 3, cells := 0, slots := 0, locals := 69 }) dC dI cI cJ [(r, .inr (2, [.ref qi, .ref qs, .ref qk, .ref qt, .int last, .int used, .int lod, .int uod])), (qi, .inr (1, [.ref ai])), (ai, .inl (cI, N, .inl fi)), (qs, .inr (1, [.ref aS])), (aS, .inl (cI, K, .inl fs)), (qk, .inr (1, [.ref ak])), (ak, .inl (cI, 6, .inl fk)), (qt, .inr (1, [.ref aT])), (aT, .inl (cI, 8, .inl ft)), (hb9, .inr (1, [.ref ab])), (ab, .inl (cI, M, .inl g))] [.ref r, .ref hb9] (rw_judge M g fk last used) := by
  refine Met.ofW (cc := cX1_judgeNext) (maxL := 3) (ret := (some .int)) (by decide) rfl ?_
  intro p e s m args below meth c s₁ B hml hv
  obtain ⟨rfl, hP, hK⟩ := hv
  have hx := B.exec
  have hb := B.bytes
  have hr := B.returns
  have hts := atoms_spec (ws := wsX1_judgeNext) B.pre
  have hown : s.vm.findClass RX1 = some m.cls := findClass_of_methodNamed B.named
  have hlocks := B.notSynchronized
  have inX1 : ∀ w ∈ wsX10, w ∈ wsX1_judgeNext := fun w h => (List.mem_cons_of_mem _ (List.mem_append_left _ (List.mem_append_right _ h)))
  have fl29 := hts (.fieldLink RX1 29 "StockLog$Rows" "last" "I") (by decide +kernel)
  have fl47 := hts (.fieldLink RX1 47 "StockLog$Rows" "used" "I") (by decide +kernel)
  have hl := lv_entry ([.ref r, .ref hb9]) (n := 3) (Nat.le_of_ble_eq_true rfl)
  rw [lg_entry_eq]
  generalize (lg_sl ([.ref r, .ref hb9]) ++ List.replicate (3 - (lg_sl ([.ref r, .ref hb9])).length) Slot.unset).toArray = ls at hl ⊢
  have hl : lv_has ls 3 [(0, .ref r), (1, .ref hb9)] := hl
  refine lv_aload_n hx hb dX1_judgeNext_0 rfl (lv_at hl 1 rfl) ?_
  refine lv_aload_n hx hb dX1_judgeNext_1 rfl (lv_at hl 0 rfl) ?_
  refine k_get (ci := 2) (T := TX1) (N := 8) (C := RX1) hx hb hts inX1 hown hK hP 0 rfl rfl 5 (by decide) fl47 rfl rfl dX1_judgeNext_2 ?_
  refine k_afP (va_runV (rest := []) ⟨hx, hb, hml, hown, hts⟩ (m_X0_isZeroFrom l dC dI cI cJ hb9 ab M g used (by first | assumption | decide)) (cwV 1 hts gX1_judgeNext_X0_isZeroFrom rfl rfl rfl hdv_X0_isZeroFrom ⟨Nat.le_of_ble_eq_true rfl, Nat.le_of_ble_eq_true rfl⟩) (k_preVP hK hP [9, 10] rfl 9 rfl rfl) rfl rfl hl.1 rfl (lv_room (Nat.le_of_ble_eq_true rfl)) dX1_judgeNext_5 ⟨Nat.le_of_ble_eq_true rfl, Nat.le_of_ble_eq_true rfl⟩) ?_
  refine lv_if_eq (tgt := 13) hx hb dX1_judgeNext_8 (by decide) (fun c1 => ?_) (fun c1 => ?_)
  · refine lv_aload_n hx hb dX1_judgeNext_13 rfl (lv_at hl 1 rfl) ?_
    refine lv_aload_n hx hb dX1_judgeNext_14 rfl (lv_at hl 0 rfl) ?_
    refine k_get (ci := 2) (T := TX1) (N := 8) (C := RX1) hx hb hts inX1 hown hK hP 0 rfl rfl 5 (by decide) fl47 rfl rfl dX1_judgeNext_15 ?_
    refine k_afP (va_runV (rest := []) ⟨hx, hb, hml, hown, hts⟩ (m_X0_at l dC dI cI cJ hb9 ab M g used (by first | assumption | decide)) (cwV 1 hts gX1_judgeNext_X0_at rfl rfl rfl hdv_X0_at ⟨Nat.le_of_ble_eq_true rfl, Nat.le_of_ble_eq_true rfl⟩) (k_preVP hK hP [9, 10] rfl 9 rfl rfl) rfl rfl hl.1 rfl (lv_room (Nat.le_of_ble_eq_true rfl)) dX1_judgeNext_18 ⟨Nat.le_of_ble_eq_true rfl, Nat.le_of_ble_eq_true rfl⟩) ?_
    refine lv_bipush (v := 90) hx hb dX1_judgeNext_21 (by decide) ?_
    refine lv_icmp_eq (tgt := 28) hx hb dX1_judgeNext_23 (by decide) (fun c2 => ?_) (fun c2 => ?_)
    · refine lv_aload_n hx hb dX1_judgeNext_28 rfl (lv_at hl 0 rfl) ?_
      refine k_get (ci := 2) (T := TX1) (N := 8) (C := RX1) hx hb hts inX1 hown hK hP 0 rfl rfl 5 (by decide) fl47 rfl rfl dX1_judgeNext_29 ?_
      refine lv_iconst (v := 4) hx hb dX1_judgeNext_32 (by decide) ?_
      refine lv_iadd hx hb dX1_judgeNext_33 ?_
      refine lv_aload_n hx hb dX1_judgeNext_34 rfl (lv_at hl 1 rfl) ?_
      refine k_afP (va_runV (rest := [.int (used + 4)]) ⟨hx, hb, hml, hown, hts⟩ (m_X0_length l dC dI cI cJ hb9 ab M g ) (cwV 0 hts gX1_judgeNext_X0_length rfl rfl rfl hdv_X0_length ⟨Nat.le_of_ble_eq_true rfl, Nat.le_of_ble_eq_true rfl⟩) (k_preVP hK hP [9, 10] rfl 9 rfl rfl) rfl rfl hl.1 rfl (lv_room (Nat.le_of_ble_eq_true rfl)) dX1_judgeNext_35 ⟨Nat.le_of_ble_eq_true rfl, Nat.le_of_ble_eq_true rfl⟩) ?_
      refine lv_icmp_lt (tgt := 43) hx hb dX1_judgeNext_38 (by decide) (fun c3 => ?_) (fun c3 => ?_)
      · refine lv_aload_n hx hb dX1_judgeNext_43 rfl (lv_at hl 1 rfl) ?_
        refine lv_aload_n hx hb dX1_judgeNext_44 rfl (lv_at hl 0 rfl) ?_
        refine k_get (ci := 2) (T := TX1) (N := 8) (C := RX1) hx hb hts inX1 hown hK hP 0 rfl rfl 5 (by decide) fl47 rfl rfl dX1_judgeNext_45 ?_
        refine lv_iconst (v := 1) hx hb dX1_judgeNext_48 (by decide) ?_
        refine lv_iadd hx hb dX1_judgeNext_49 ?_
        refine k_afP (va_runV (rest := []) ⟨hx, hb, hml, hown, hts⟩ (m_X0_at l dC dI cI cJ hb9 ab M g (used + 1) (by first | assumption | decide)) (cwV 1 hts gX1_judgeNext_X0_at rfl rfl rfl hdv_X0_at ⟨Nat.le_of_ble_eq_true rfl, Nat.le_of_ble_eq_true rfl⟩) (k_preVP hK hP [9, 10] rfl 9 rfl rfl) rfl rfl hl.1 rfl (lv_room (Nat.le_of_ble_eq_true rfl)) dX1_judgeNext_50 ⟨Nat.le_of_ble_eq_true rfl, Nat.le_of_ble_eq_true rfl⟩) ?_
        refine k_afP (va_runSN (host := "StockLog") (rest := []) ⟨hx, hb, hml, hown, hts⟩ (m_X2_isKind l dC dI cI cJ (ca_at M g (used + 1)) ) ⟨va_cnB 1 hts ggX1_judgeNext_X2_isKind rfl rfl rfl (hK.2.2 (RX1, 97, yX2_isKind, "StockLog") (by decide +kernel)) (hts (.initialized RX2) (by decide +kernel)) hdn_X2_isKind ⟨Nat.le_of_ble_eq_true rfl, Nat.le_of_ble_eq_true rfl⟩, hts (.static yX2_isKind) (by decide +kernel), trivial⟩ (k_preSP hK hP [] rfl) rfl rfl hl.1 rfl (lv_room (Nat.le_of_ble_eq_true rfl)) dX1_judgeNext_53 ⟨Nat.le_of_ble_eq_true rfl, Nat.le_of_ble_eq_true rfl⟩) ?_
        refine lv_if_ne (tgt := 61) hx hb dX1_judgeNext_56 (by decide) (fun c4 => ?_) (fun c4 => ?_)
        · refine lv_aload_n hx hb dX1_judgeNext_61 rfl (lv_at hl 1 rfl) ?_
          refine lv_aload_n hx hb dX1_judgeNext_62 rfl (lv_at hl 0 rfl) ?_
          refine k_get (ci := 2) (T := TX1) (N := 8) (C := RX1) hx hb hts inX1 hown hK hP 0 rfl rfl 5 (by decide) fl47 rfl rfl dX1_judgeNext_63 ?_
          refine lv_iconst (v := 2) hx hb dX1_judgeNext_66 (by decide) ?_
          refine lv_iadd hx hb dX1_judgeNext_67 ?_
          refine lv_iconst (v := 2) hx hb dX1_judgeNext_68 (by decide) ?_
          refine k_afP (va_runV (rest := []) ⟨hx, hb, hml, hown, hts⟩ (m_X0_numberAt l dC dI cI cJ hb9 ab M g (used + 2) 2 (by first | assumption | decide)) (cwV 2 hts gX1_judgeNext_X0_numberAt rfl rfl rfl hdv_X0_numberAt ⟨Nat.le_of_ble_eq_true rfl, Nat.le_of_ble_eq_true rfl⟩) (k_preVP hK hP [9, 10] rfl 9 rfl rfl) rfl rfl hl.1 rfl (lv_room (Nat.le_of_ble_eq_true rfl)) dX1_judgeNext_69 ⟨Nat.le_of_ble_eq_true rfl, Nat.le_of_ble_eq_true rfl⟩) ?_
          refine lv_aload_n hx hb dX1_judgeNext_72 rfl (lv_at hl 0 rfl) ?_
          refine k_get (ci := 2) (T := TX1) (N := 8) (C := RX1) hx hb hts inX1 hown hK hP 0 rfl rfl 4 (by decide) fl29 rfl rfl dX1_judgeNext_73 ?_
          refine lv_iconst (v := 1) hx hb dX1_judgeNext_76 (by decide) ?_
          refine lv_iadd hx hb dX1_judgeNext_77 ?_
          refine lv_icmp_eq (tgt := 83) hx hb dX1_judgeNext_78 (by decide) (fun c5 => ?_) (fun c5 => ?_)
          · refine lv_aload_n hx hb dX1_judgeNext_83 rfl (lv_at hl 1 rfl) ?_
            refine lv_aload_n hx hb dX1_judgeNext_84 rfl (lv_at hl 0 rfl) ?_
            refine k_get (ci := 2) (T := TX1) (N := 8) (C := RX1) hx hb hts inX1 hown hK hP 0 rfl rfl 5 (by decide) fl47 rfl rfl dX1_judgeNext_85 ?_
            refine lv_iconst (v := 4) hx hb dX1_judgeNext_88 (by decide) ?_
            refine lv_iadd hx hb dX1_judgeNext_89 ?_
            refine k_afP (va_runV (rest := []) ⟨hx, hb, hml, hown, hts⟩ (m_X0_at l dC dI cI cJ hb9 ab M g (used + 4) (by first | assumption | decide)) (cwV 1 hts gX1_judgeNext_X0_at rfl rfl rfl hdv_X0_at ⟨Nat.le_of_ble_eq_true rfl, Nat.le_of_ble_eq_true rfl⟩) (k_preVP hK hP [9, 10] rfl 9 rfl rfl) rfl rfl hl.1 rfl (lv_room (Nat.le_of_ble_eq_true rfl)) dX1_judgeNext_90 ⟨Nat.le_of_ble_eq_true rfl, Nat.le_of_ble_eq_true rfl⟩) ?_
            refine lv_istore_n (lv' := [(2, .int (ca_at M g (used + 4))), (0, .ref r), (1, .ref hb9)]) hx hb dX1_judgeNext_93 rfl hl (by decide) rfl (fun ls hl => ?_)
            refine lv_iload_n hx hb dX1_judgeNext_94 rfl (lv_at hl 0 rfl) ?_
            refine lv_bipush (v := 20) hx hb dX1_judgeNext_95 (by decide) ?_
            refine lv_icmp_gt (tgt := 116) hx hb dX1_judgeNext_97 (by decide) (fun c6 => ?_) (fun c6 => ?_)
            · refine lv_iconst (v := 4) hx hb dX1_judgeNext_116 (by decide) ?_
              exact k_iretP (ret := none) hx hb hr hlocks (by simp only [rw_judge, if_pos c1, if_pos c2, if_pos c3, if_neg c4, if_pos c5, if_pos c6]) rfl dX1_judgeNext_117
            · refine lv_aload_n hx hb dX1_judgeNext_100 rfl (lv_at hl 1 rfl) ?_
              refine k_get (ci := 2) (T := TX1) (N := 8) (C := RX1) hx hb hts inX1 hown hK hP 0 rfl rfl 5 (by decide) fl47 rfl rfl dX1_judgeNext_101 ?_
              refine lv_bipush (v := 9) hx hb dX1_judgeNext_104 (by decide) ?_
              refine lv_iadd hx hb dX1_judgeNext_106 ?_
              refine lv_iload_n hx hb dX1_judgeNext_107 rfl (lv_at hl 0 rfl) ?_
              refine lv_iadd hx hb dX1_judgeNext_108 ?_
              refine lv_aload_n hx hb dX1_judgeNext_109 rfl (lv_at hl 2 rfl) ?_
              refine k_afP (va_runV (rest := [.int ((used + 9) + (ca_at M g (used + 4)))]) ⟨hx, hb, hml, hown, hts⟩ (m_X0_length l dC dI cI cJ hb9 ab M g ) (cwV 0 hts gX1_judgeNext_X0_length rfl rfl rfl hdv_X0_length ⟨Nat.le_of_ble_eq_true rfl, Nat.le_of_ble_eq_true rfl⟩) (k_preVP hK hP [9, 10] rfl 9 rfl rfl) rfl rfl hl.1 rfl (lv_room (Nat.le_of_ble_eq_true rfl)) dX1_judgeNext_110 ⟨Nat.le_of_ble_eq_true rfl, Nat.le_of_ble_eq_true rfl⟩) ?_
              refine lv_icmp_le (tgt := 118) hx hb dX1_judgeNext_113 (by decide) (fun c7 => ?_) (fun c7 => ?_)
              · refine lv_aload_n hx hb dX1_judgeNext_118 rfl (lv_at hl 2 rfl) ?_
                refine lv_aload_n hx hb dX1_judgeNext_119 rfl (lv_at hl 1 rfl) ?_
                refine k_get (ci := 2) (T := TX1) (N := 8) (C := RX1) hx hb hts inX1 hown hK hP 0 rfl rfl 5 (by decide) fl47 rfl rfl dX1_judgeNext_120 ?_
                refine lv_iconst (v := 5) hx hb dX1_judgeNext_123 (by decide) ?_
                refine lv_iadd hx hb dX1_judgeNext_124 ?_
                refine lv_iload_n hx hb dX1_judgeNext_125 rfl (lv_at hl 0 rfl) ?_
                refine lv_iadd hx hb dX1_judgeNext_126 ?_
                refine lv_iconst (v := 4) hx hb dX1_judgeNext_127 (by decide) ?_
                refine k_afP (va_runV (rest := []) ⟨hx, hb, hml, hown, hts⟩ (m_X0_numberAt l dC dI cI cJ hb9 ab M g ((used + 5) + (ca_at M g (used + 4))) 4 (by first | assumption | decide)) (cwV 2 hts gX1_judgeNext_X0_numberAt rfl rfl rfl hdv_X0_numberAt ⟨Nat.le_of_ble_eq_true rfl, Nat.le_of_ble_eq_true rfl⟩) (k_preVP hK hP [9, 10] rfl 9 rfl rfl) rfl rfl hl.1 rfl (lv_room (Nat.le_of_ble_eq_true rfl)) dX1_judgeNext_128 ⟨Nat.le_of_ble_eq_true rfl, Nat.le_of_ble_eq_true rfl⟩) ?_
                refine lv_aload_n hx hb dX1_judgeNext_131 rfl (lv_at hl 2 rfl) ?_
                refine lv_aload_n hx hb dX1_judgeNext_132 rfl (lv_at hl 1 rfl) ?_
                refine k_get (ci := 2) (T := TX1) (N := 8) (C := RX1) hx hb hts inX1 hown hK hP 0 rfl rfl 5 (by decide) fl47 rfl rfl dX1_judgeNext_133 ?_
                refine lv_iload_n hx hb dX1_judgeNext_136 rfl (lv_at hl 0 rfl) ?_
                refine k_afP (va_runSN (host := "StockLog") (rest := [.int (ca_num M g ((used + 5) + (ca_at M g (used + 4))) 4)]) ⟨hx, hb, hml, hown, hts⟩ (m_X2_sumOfRow l dC dI cI cJ hb9 ab M g used (ca_at M g (used + 4)) (by first | assumption | decide)) ⟨va_cnB 3 hts ggX1_judgeNext_X2_sumOfRow rfl rfl rfl (hK.2.2 (RX1, 61, yX2_sumOfRow, "StockLog") (by decide +kernel)) (hts (.initialized RX2) (by decide +kernel)) hdn_X2_sumOfRow ⟨Nat.le_of_ble_eq_true rfl, Nat.le_of_ble_eq_true rfl⟩, hts (.static yX2_sumOfRow) (by decide +kernel), trivial⟩ (k_preSP hK hP [9, 10] rfl) rfl rfl hl.1 rfl (lv_room (Nat.le_of_ble_eq_true rfl)) dX1_judgeNext_137 ⟨Nat.le_of_ble_eq_true rfl, Nat.le_of_ble_eq_true rfl⟩) ?_
                refine lv_icmp_eq (tgt := 145) hx hb dX1_judgeNext_140 (by decide) (fun c8 => ?_) (fun c8 => ?_)
                · refine lv_aload_n hx hb dX1_judgeNext_145 rfl (lv_at hl 2 rfl) ?_
                  refine lv_aload_n hx hb dX1_judgeNext_146 rfl (lv_at hl 1 rfl) ?_
                  refine k_get (ci := 2) (T := TX1) (N := 8) (C := RX1) hx hb hts inX1 hown hK hP 0 rfl rfl 5 (by decide) fl47 rfl rfl dX1_judgeNext_147 ?_
                  refine lv_iconst (v := 1) hx hb dX1_judgeNext_150 (by decide) ?_
                  refine lv_iadd hx hb dX1_judgeNext_151 ?_
                  refine k_afP (va_runV (rest := []) ⟨hx, hb, hml, hown, hts⟩ (m_X0_at l dC dI cI cJ hb9 ab M g (used + 1) (by first | assumption | decide)) (cwV 1 hts gX1_judgeNext_X0_at rfl rfl rfl hdv_X0_at ⟨Nat.le_of_ble_eq_true rfl, Nat.le_of_ble_eq_true rfl⟩) (k_preVP hK hP [9, 10] rfl 9 rfl rfl) rfl rfl hl.1 rfl (lv_room (Nat.le_of_ble_eq_true rfl)) dX1_judgeNext_152 ⟨Nat.le_of_ble_eq_true rfl, Nat.le_of_ble_eq_true rfl⟩) ?_
                  refine lv_iconst (v := 5) hx hb dX1_judgeNext_155 (by decide) ?_
                  refine lv_icmp_ne (tgt := 177) hx hb dX1_judgeNext_156 (by decide) (fun c9 => ?_) (fun c9 => ?_)
                  · refine lv_iconst (v := (-1)) hx hb dX1_judgeNext_177 (by decide) ?_
                    exact k_iretP (ret := none) hx hb hr hlocks (by simp only [rw_judge, if_pos c1, if_pos c2, if_pos c3, if_neg c4, if_pos c5, if_neg c6, if_pos c7, if_pos c8, if_neg c9]) rfl dX1_judgeNext_178
                  · refine lv_aload_n hx hb dX1_judgeNext_159 rfl (lv_at hl 1 rfl) ?_
                    refine lv_aload_n hx hb dX1_judgeNext_160 rfl (lv_at hl 2 rfl) ?_
                    refine lv_aload_n hx hb dX1_judgeNext_161 rfl (lv_at hl 1 rfl) ?_
                    refine k_get (ci := 2) (T := TX1) (N := 8) (C := RX1) hx hb hts inX1 hown hK hP 0 rfl rfl 5 (by decide) fl47 rfl rfl dX1_judgeNext_162 ?_
                    refine lv_iconst (v := 5) hx hb dX1_judgeNext_165 (by decide) ?_
                    refine lv_iadd hx hb dX1_judgeNext_166 ?_
                    refine lv_iload_n hx hb dX1_judgeNext_167 rfl (lv_at hl 0 rfl) ?_
                    refine k_afP (va_runV (rest := []) ⟨hx, hb, hml, hown, hts⟩ (m_X1_isState l dC dI cI cJ r qi ai qs aS qk ak qt aT N K fi fs fk ft last used lod uod hb9 ab M g (used + 5) (ca_at M g (used + 4)) (by first | assumption | decide) (by first | assumption | decide) (by first | assumption | decide)) (cwV 3 hts gX1_judgeNext_X1_isState rfl rfl rfl hdv_X1_isState ⟨Nat.le_of_ble_eq_true rfl, Nat.le_of_ble_eq_true rfl⟩) (k_preVP hK hP [0, 1, 2, 3, 4, 5, 6, 7, 8, 9, 10] rfl 0 rfl rfl) rfl rfl hl.1 rfl (lv_room (Nat.le_of_ble_eq_true rfl)) dX1_judgeNext_168 ⟨Nat.le_of_ble_eq_true rfl, Nat.le_of_ble_eq_true rfl⟩) ?_
                    refine lv_if_ne (tgt := 177) hx hb dX1_judgeNext_171 (by decide) (fun c10 => ?_) (fun c10 => ?_)
                    · refine lv_iconst (v := (-1)) hx hb dX1_judgeNext_177 (by decide) ?_
                      exact k_iretP (ret := none) hx hb hr hlocks (by simp only [rw_judge, if_pos c1, if_pos c2, if_pos c3, if_neg c4, if_pos c5, if_neg c6, if_pos c7, if_pos c8, if_pos c9, if_neg c10]) rfl dX1_judgeNext_178
                    · refine lv_bipush (v := 6) hx hb dX1_judgeNext_174 (by decide) ?_
                      exact k_iretP (ret := none) hx hb hr hlocks (by simp only [rw_judge, if_pos c1, if_pos c2, if_pos c3, if_neg c4, if_pos c5, if_neg c6, if_pos c7, if_pos c8, if_pos c9, if_pos c10]) rfl dX1_judgeNext_176
                · refine lv_iconst (v := 5) hx hb dX1_judgeNext_143 (by decide) ?_
                  exact k_iretP (ret := none) hx hb hr hlocks (by simp only [rw_judge, if_pos c1, if_pos c2, if_pos c3, if_neg c4, if_pos c5, if_neg c6, if_pos c7, if_neg c8]) rfl dX1_judgeNext_144
              · refine lv_iconst (v := 4) hx hb dX1_judgeNext_116 (by decide) ?_
                exact k_iretP (ret := none) hx hb hr hlocks (by simp only [rw_judge, if_pos c1, if_pos c2, if_pos c3, if_neg c4, if_pos c5, if_neg c6, if_neg c7]) rfl dX1_judgeNext_117
          · refine lv_iconst (v := 3) hx hb dX1_judgeNext_81 (by decide) ?_
            exact k_iretP (ret := none) hx hb hr hlocks (by simp only [rw_judge, if_pos c1, if_pos c2, if_pos c3, if_neg c4, if_neg c5]) rfl dX1_judgeNext_82
        · refine lv_iconst (v := 2) hx hb dX1_judgeNext_59 (by decide) ?_
          exact k_iretP (ret := none) hx hb hr hlocks (by simp only [rw_judge, if_pos c1, if_pos c2, if_pos c3, if_pos c4]) rfl dX1_judgeNext_60
      · refine lv_iconst (v := 4) hx hb dX1_judgeNext_41 (by decide) ?_
        exact k_iretP (ret := none) hx hb hr hlocks (by simp only [rw_judge, if_pos c1, if_pos c2, if_neg c3]) rfl dX1_judgeNext_42
    · refine lv_iconst (v := 1) hx hb dX1_judgeNext_26 (by decide) ?_
      exact k_iretP (ret := none) hx hb hr hlocks (by simp only [rw_judge, if_pos c1, if_neg c2]) rfl dX1_judgeNext_27
  · refine lv_iconst (v := 0) hx hb dX1_judgeNext_11 (by decide) ?_
    exact k_iretP (ret := none) hx hb hr hlocks (by simp only [rw_judge, if_neg c1]) rfl dX1_judgeNext_12
set_option maxHeartbeats 4000000 in
set_option maxRecDepth 100000 in
theorem m_X1_writeState (l : Launch) (dC : Nat → ClassId) (dI : Nat → Nat → Nat) (cI cJ : ClassId) (r : Nat) (qi : Nat) (ai : Nat) (qs : Nat) (aS : Nat) (qk : Nat) (ak : Nat) (qt : Nat) (aT : Nat) (N : Nat) (K : Nat) (fi : Nat → Int32) (fs : Nat → Int32) (fk : Nat → Int32) (ft : Nat → Int32) (last : Int32) (used : Int32) (lod : Int32) (uod : Int32) (hN : N < 2 ^ 31) (hK9 : K < 2 ^ 31) : cW l yX1_writeState wsX1_writeState ({ frames := 4, cells := 0, slots := 0, locals := 87 }) dC dI cI cJ [(r, .inr (2, [.ref qi, .ref qs, .ref qk, .ref qt, .int last, .int used, .int lod, .int uod])), (qi, .inr (1, [.ref ai])), (ai, .inl (cI, N, .inl fi)), (qs, .inr (1, [.ref aS])), (aS, .inl (cI, K, .inl fs)), (qk, .inr (1, [.ref ak])), (ak, .inl (cI, 6, .inl fk)), (qt, .inr (1, [.ref aT])), (aT, .inl (cI, 8, .inl ft))] [(r, .inr (2, [.ref qi, .ref qs, .ref qk, .ref qt, .int (last + 1), .int (rw_enU N K (rw_image N fi used last 5 8 8 (rw_fill ft fk)) fs last used), .int lod, .int uod])), (qi, .inr (1, [.ref ai])), (ai, .inl (cI, N, .inl (rw_image N fi used last 5 8 8 (rw_fill ft fk)))), (qs, .inr (1, [.ref aS])), (aS, .inl (cI, K, .inl (rw_enS K fs last used))), (qk, .inr (1, [.ref ak])), (ak, .inl (cI, 6, .inl (rw_enK N K (rw_image N fi used last 5 8 8 (rw_fill ft fk)) fs fk last used))), (qt, .inr (1, [.ref aT])), (aT, .inl (cI, 8, .inl (rw_fill ft fk)))] [r, qi, ai, qs, aS, qk, ak, qt, aT] [.ref r] (some (.int (last + 1))) := by
  refine Met.ofW (cc := cX1_writeState) (maxL := 1) (ret := (some .int)) (by decide) rfl ?_
  intro p e s m args below meth c s₁ B hml hv
  obtain ⟨rfl, hP, hK, hD0⟩ := hv
  have hx := B.exec
  have hb := B.bytes
  have hr := B.returns
  have hts := atoms_spec (ws := wsX1_writeState) B.pre
  have hown : s.vm.findClass RX1 = some m.cls := findClass_of_methodNamed B.named
  have hlocks := B.notSynchronized
  have inX1 : ∀ w ∈ wsX10, w ∈ wsX1_writeState := fun w h => (List.mem_cons_of_mem _ (List.mem_append_left _ (List.mem_append_right _ h)))
  have fl26 := hts (.fieldLink RX1 26 "StockLog$Rows" "state" "LStockLog$Cells;") (by decide +kernel)
  have hD : va_D (mA [r, qi, ai, qs, aS, qk, ak, qt, aT]) [(r, .inr (2, [.ref qi, .ref qs, .ref qk, .ref qt, .int last, .int used, .int lod, .int uod])), (qi, .inr (1, [.ref ai])), (ai, .inl (cI, N, .inl fi)), (qs, .inr (1, [.ref aS])), (aS, .inl (cI, K, .inl fs)), (qk, .inr (1, [.ref ak])), (ak, .inl (cI, 6, .inl fk)), (qt, .inr (1, [.ref aT])), (aT, .inl (cI, 8, .inl ft))] := k_Dw hD0 rfl
  have hS : va_S (mA [r, qi, ai, qs, aS, qk, ak, qt, aT]) s.heap s.heap [] := va_S.rf
  have hl := lv_entry ([.ref r]) (n := 1) (Nat.le_of_ble_eq_true rfl)
  rw [lg_entry_eq]
  generalize (lg_sl ([.ref r]) ++ List.replicate (1 - (lg_sl ([.ref r])).length) Slot.unset).toArray = ls at hl ⊢
  have hl : lv_has ls 1 [(0, .ref r)] := hl
  refine lv_aload_n hx hb dX1_writeState_0 rfl (lv_at hl 0 rfl) ?_
  refine k_afW (wc := [(r, .inr (2, [.ref qi, .ref qs, .ref qk, .ref qt, .int last, .int used, .int lod, .int uod])), (qi, .inr (1, [.ref ai])), (ai, .inl (cI, N, .inl fi)), (qs, .inr (1, [.ref aS])), (aS, .inl (cI, K, .inl fs)), (qk, .inr (1, [.ref ak])), (ak, .inl (cI, 6, .inl fk)), (qt, .inr (1, [.ref aT])), (aT, .inl (cI, 8, .inl ft))]) (ws' := [(r, .inr (2, [.ref qi, .ref qs, .ref qk, .ref qt, .int last, .int used, .int lod, .int uod])), (qi, .inr (1, [.ref ai])), (ai, .inl (cI, N, .inl fi)), (qs, .inr (1, [.ref aS])), (aS, .inl (cI, K, .inl fs)), (qk, .inr (1, [.ref ak])), (ak, .inl (cI, 6, .inl fk)), (qt, .inr (1, [.ref aT])), (aT, .inl (cI, 8, .inl (rw_fill ft fk)))]) (va_runV (rest := []) ⟨hx, hb, hml, hown, hts⟩ (m_X1_fillState l dC dI cI cJ r qi ai qs aS qk ak qt aT N K fi fs fk ft last used lod uod (by first | assumption | decide) (by first | assumption | decide)) (cwV 0 hts gX1_writeState_X1_fillState rfl rfl rfl hdv_X1_fillState ⟨Nat.le_of_ble_eq_true rfl, Nat.le_of_ble_eq_true rfl⟩) (k_preVW hK hP hD [0, 1, 2, 3, 4, 5, 6, 7, 8] rfl rfl 0 rfl rfl) rfl rfl hl.1 rfl (lv_room (Nat.le_of_ble_eq_true rfl)) dX1_writeState_1 ⟨Nat.le_of_ble_eq_true rfl, Nat.le_of_ble_eq_true rfl⟩) hP hD hS [0, 1, 2, 3, 4, 5, 6, 7, 8] rfl rfl rfl rfl (fun H locs hP hD hS => ?_)
  refine lv_aload_n hx hb dX1_writeState_4 rfl (lv_at hl 0 rfl) ?_
  refine lv_iconst (v := 5) hx hb dX1_writeState_5 (by decide) ?_
  refine lv_aload_n hx hb dX1_writeState_6 rfl (lv_at hl 0 rfl) ?_
  refine k_get (ci := 2) (T := TX1) (N := 8) (C := RX1) hx hb hts inX1 hown hK hP 0 rfl rfl 3 (by decide) fl26 rfl rfl dX1_writeState_7 ?_
  refine lv_bipush (v := 8) hx hb dX1_writeState_10 (by decide) ?_
  refine k_afW (wc := [(r, .inr (2, [.ref qi, .ref qs, .ref qk, .ref qt, .int last, .int used, .int lod, .int uod])), (qi, .inr (1, [.ref ai])), (ai, .inl (cI, N, .inl fi)), (qs, .inr (1, [.ref aS])), (aS, .inl (cI, K, .inl fs)), (qk, .inr (1, [.ref ak])), (ak, .inl (cI, 6, .inl fk)), (qt, .inr (1, [.ref aT])), (aT, .inl (cI, 8, .inl (rw_fill ft fk)))]) (ws' := [(r, .inr (2, [.ref qi, .ref qs, .ref qk, .ref qt, .int (last + 1), .int (rw_enU N K (rw_image N fi used last 5 8 8 (rw_fill ft fk)) fs last used), .int lod, .int uod])), (qi, .inr (1, [.ref ai])), (ai, .inl (cI, N, .inl (rw_image N fi used last 5 8 8 (rw_fill ft fk)))), (qs, .inr (1, [.ref aS])), (aS, .inl (cI, K, .inl (rw_enS K fs last used))), (qk, .inr (1, [.ref ak])), (ak, .inl (cI, 6, .inl (rw_enK N K (rw_image N fi used last 5 8 8 (rw_fill ft fk)) fs fk last used))), (qt, .inr (1, [.ref aT])), (aT, .inl (cI, 8, .inl (rw_fill ft fk)))]) (va_runV (rest := []) ⟨hx, hb, hml, hown, hts⟩ (m_X1_writeS l dC dI cI cJ r qi ai qs aS qk ak qt aT N K fi fs fk (rw_fill ft fk) last used lod uod 5 8 (by first | assumption | decide) (by first | assumption | decide)) (cwV 3 hts gX1_writeState_X1_write rfl rfl rfl hdv_X1_write ⟨Nat.le_of_ble_eq_true rfl, Nat.le_of_ble_eq_true rfl⟩) (k_preVW hK hP hD [0, 1, 2, 3, 4, 5, 6, 7, 8] rfl rfl 0 rfl rfl) rfl rfl hl.1 rfl (lv_room (Nat.le_of_ble_eq_true rfl)) dX1_writeState_12 ⟨Nat.le_of_ble_eq_true rfl, Nat.le_of_ble_eq_true rfl⟩) hP hD hS [0, 1, 2, 3, 4, 5, 6, 7, 8] rfl rfl rfl rfl (fun H locs hP hD hS => ?_)
  exact k_iretW hx hb hr hlocks hP hS rfl rfl dX1_writeState_15
set_option maxHeartbeats 4000000 in
set_option maxRecDepth 100000 in
theorem m_X1_read (l : Launch) (dC : Nat → ClassId) (dI : Nat → Nat → Nat) (cI cJ : ClassId) (r : Nat) (qi : Nat) (ai : Nat) (qs : Nat) (aS : Nat) (qk : Nat) (ak : Nat) (qt : Nat) (aT : Nat) (N : Nat) (K : Nat) (fi : Nat → Int32) (fs : Nat → Int32) (fk : Nat → Int32) (ft : Nat → Int32) (last : Int32) (used : Int32) (lod : Int32) (uod : Int32) (hb9 : Nat) (ab : Nat) (M : Nat) (g : Nat → Int32) (hN : N < 2 ^ 31) (hK9 : K < 2 ^ 31) (hM : M < 2 ^ 31) : cW l yX1_read wsX1_read ({ frames := 4, cells := 0, slots := 0, locals := 91 }) dC dI cI cJ [(r, .inr (2, [.ref qi, .ref qs, .ref qk, .ref qt, .int last, .int used, .int lod, .int uod])), (qi, .inr (1, [.ref ai])), (ai, .inl (cI, N, .inl fi)), (qs, .inr (1, [.ref aS])), (aS, .inl (cI, K, .inl fs)), (qk, .inr (1, [.ref ak])), (ak, .inl (cI, 6, .inl fk)), (qt, .inr (1, [.ref aT])), (aT, .inl (cI, 8, .inl ft)), (hb9, .inr (1, [.ref ab])), (ab, .inl (cI, M, .inl g))] [(r, .inr (2, [.ref qi, .ref qs, .ref qk, .ref qt, .int ((rw_read N K M g (fi, fs, fk, last, used)).1.2.2.2.1), .int ((rw_read N K M g (fi, fs, fk, last, used)).1.2.2.2.2), .int lod, .int uod])), (qi, .inr (1, [.ref ai])), (ai, .inl (cI, N, .inl ((rw_read N K M g (fi, fs, fk, last, used)).1.1))), (qs, .inr (1, [.ref aS])), (aS, .inl (cI, K, .inl ((rw_read N K M g (fi, fs, fk, last, used)).1.2.1))), (qk, .inr (1, [.ref ak])), (ak, .inl (cI, 6, .inl ((rw_read N K M g (fi, fs, fk, last, used)).1.2.2.1))), (qt, .inr (1, [.ref aT])), (aT, .inl (cI, 8, .inl ft)), (hb9, .inr (1, [.ref ab])), (ab, .inl (cI, M, .inl g))] [r, qi, ai, qs, aS, qk, ak, qt, aT, hb9, ab] [.ref r, .ref hb9] (some (.int ((rw_read N K M g (fi, fs, fk, last, used)).2))) := by
  refine Met.ofW (cc := cX1_read) (maxL := 5) (ret := (some .int)) (by decide) rfl ?_
  intro p e s m args below meth c s₁ B hml hv
  obtain ⟨rfl, hP, hK, hD0⟩ := hv
  have hx := B.exec
  have hb := B.bytes
  have hr := B.returns
  have hts := atoms_spec (ws := wsX1_read) B.pre
  have hown : s.vm.findClass RX1 = some m.cls := findClass_of_methodNamed B.named
  have hlocks := B.notSynchronized
  have inX1 : ∀ w ∈ wsX10, w ∈ wsX1_read := fun w h => (List.mem_cons_of_mem _ (List.mem_append_left _ (List.mem_append_right _ h)))
  have fl14 := hts (.fieldLink RX1 14 "StockLog$Rows" "image" "LStockLog$Cells;") (by decide +kernel)
  have fl47 := hts (.fieldLink RX1 47 "StockLog$Rows" "used" "I") (by decide +kernel)
  have hD : va_D (mA [r, qi, ai, qs, aS, qk, ak, qt, aT, hb9, ab]) [(r, .inr (2, [.ref qi, .ref qs, .ref qk, .ref qt, .int last, .int used, .int lod, .int uod])), (qi, .inr (1, [.ref ai])), (ai, .inl (cI, N, .inl fi)), (qs, .inr (1, [.ref aS])), (aS, .inl (cI, K, .inl fs)), (qk, .inr (1, [.ref ak])), (ak, .inl (cI, 6, .inl fk)), (qt, .inr (1, [.ref aT])), (aT, .inl (cI, 8, .inl ft)), (hb9, .inr (1, [.ref ab])), (ab, .inl (cI, M, .inl g))] := k_Dw hD0 rfl
  have hS : va_S (mA [r, qi, ai, qs, aS, qk, ak, qt, aT, hb9, ab]) s.heap s.heap [] := va_S.rf
  have hl := lv_entry ([.ref r, .ref hb9]) (n := 5) (Nat.le_of_ble_eq_true rfl)
  rw [lg_entry_eq]
  generalize (lg_sl ([.ref r, .ref hb9]) ++ List.replicate (5 - (lg_sl ([.ref r, .ref hb9])).length) Slot.unset).toArray = ls at hl ⊢
  have hl : lv_has ls 5 [(0, .ref r), (1, .ref hb9)] := hl
  refine lv_aload_n hx hb dX1_read_0 rfl (lv_at hl 0 rfl) ?_
  refine lv_aload_n hx hb dX1_read_1 rfl (lv_at hl 1 rfl) ?_
  refine k_afP (va_runV (rest := []) ⟨hx, hb, hml, hown, hts⟩ (m_X1_judgeNext l dC dI cI cJ r qi ai qs aS qk ak qt aT N K fi fs fk ft last used lod uod hb9 ab M g (by first | assumption | decide) (by first | assumption | decide) (by first | assumption | decide)) (cwV 1 hts gX1_read_X1_judgeNext rfl rfl rfl hdv_X1_judgeNext ⟨Nat.le_of_ble_eq_true rfl, Nat.le_of_ble_eq_true rfl⟩) (k_preVP hK hP [0, 1, 2, 3, 4, 5, 6, 7, 8, 9, 10] rfl 0 rfl rfl) rfl rfl hl.1 rfl (lv_room (Nat.le_of_ble_eq_true rfl)) dX1_read_2 ⟨Nat.le_of_ble_eq_true rfl, Nat.le_of_ble_eq_true rfl⟩) ?_
  refine lv_istore_n (lv' := [(2, .int (rw_judge M g fk last used)), (0, .ref r), (1, .ref hb9)]) hx hb dX1_read_5 rfl hl (by decide) rfl (fun ls hl => ?_)
  refine lv_iconst (v := 0) hx hb dX1_read_6 (by decide) ?_
  refine lv_istore_n (lv' := [(3, .int 0), (2, .int (rw_judge M g fk last used)), (0, .ref r), (1, .ref hb9)]) hx hb dX1_read_7 rfl hl (by decide) rfl (fun ls hl => ?_)
  have loop8 : ∀ (n : Nat) (i : Int32) (xi : Nat → Int32) (xs : Nat → Int32) (xk : Nat → Int32) (xl : Int32) (xu : Int32) (j : Int32) (H : Heap) (locs : List Loc) (ls : Array Slot), (loopE (nI M) (fun _ (y : RS × Int32) => rw_rstep N K M g y) id i ((xi, xs, xk, xl, xu), j) = rw_read N K M g (fi, fs, fk, last, used)) → ((nI M).toInt - i.toInt).toNat < n → va_P (dC, dI) vwCl [(r, .inr (2, [.ref qi, .ref qs, .ref qk, .ref qt, .int xl, .int xu, .int lod, .int uod])), (qi, .inr (1, [.ref ai])), (ai, .inl (cI, N, .inl xi)), (qs, .inr (1, [.ref aS])), (aS, .inl (cI, K, .inl xs)), (qk, .inr (1, [.ref ak])), (ak, .inl (cI, 6, .inl xk)), (qt, .inr (1, [.ref aT])), (aT, .inl (cI, 8, .inl ft)), (hb9, .inr (1, [.ref ab])), (ab, .inl (cI, M, .inl g))] H → va_D (mA [r, qi, ai, qs, aS, qk, ak, qt, aT, hb9, ab]) [(r, .inr (2, [.ref qi, .ref qs, .ref qk, .ref qt, .int xl, .int xu, .int lod, .int uod])), (qi, .inr (1, [.ref ai])), (ai, .inl (cI, N, .inl xi)), (qs, .inr (1, [.ref aS])), (aS, .inl (cI, K, .inl xs)), (qk, .inr (1, [.ref ak])), (ak, .inl (cI, 6, .inl xk)), (qt, .inr (1, [.ref aT])), (aT, .inl (cI, 8, .inl ft)), (hb9, .inr (1, [.ref ab])), (ab, .inl (cI, M, .inl g))] → va_S (mA [r, qi, ai, qs, aS, qk, ak, qt, aT, hb9, ab]) s.heap H locs → lv_has ls 5 [(3, .int i), (2, .int j), (0, .ref r), (1, .ref hb9)] → W p l e (headSpec wsX1_read ({ frames := 4, cells := 0, slots := 0, locals := 91 })).room s m ([.ref r, .ref hb9] : List Value).toArray below meth c H locs 0 0 (MQ below (mQ dC dI [(r, .inr (2, [.ref qi, .ref qs, .ref qk, .ref qt, .int ((rw_read N K M g (fi, fs, fk, last, used)).1.2.2.2.1), .int ((rw_read N K M g (fi, fs, fk, last, used)).1.2.2.2.2), .int lod, .int uod])), (qi, .inr (1, [.ref ai])), (ai, .inl (cI, N, .inl ((rw_read N K M g (fi, fs, fk, last, used)).1.1))), (qs, .inr (1, [.ref aS])), (aS, .inl (cI, K, .inl ((rw_read N K M g (fi, fs, fk, last, used)).1.2.1))), (qk, .inr (1, [.ref ak])), (ak, .inl (cI, 6, .inl ((rw_read N K M g (fi, fs, fk, last, used)).1.2.2.1))), (qt, .inr (1, [.ref aT])), (aT, .inl (cI, 8, .inl ft)), (hb9, .inr (1, [.ref ab])), (ab, .inl (cI, M, .inl g))] [r, qi, ai, qs, aS, qk, ak, qt, aT, hb9, ab] (some (.int ((rw_read N K M g (fi, fs, fk, last, used)).2)))) ([.ref r, .ref hb9] : List Value).toArray s 0 0 (mA [r, qi, ai, qs, aS, qk, ak, qt, aT, hb9, ab])) (F0 m 8 ls []) := by
    intro n
    induction n with
    | zero => intro i xi xs xk xl xu j H locs ls hi hm; exact absurd hm (Nat.not_lt_zero _)
    | succ n ih =>
      intro i xi xs xk xl xu j H locs ls hi hm hP hD hS hl
      refine lv_iload_n hx hb dX1_read_8 rfl (lv_at hl 0 rfl) ?_
      refine lv_aload_n hx hb dX1_read_9 rfl (lv_at hl 3 rfl) ?_
      refine k_afP (va_runV (rest := [.int i]) ⟨hx, hb, hml, hown, hts⟩ (m_X0_length l dC dI cI cJ hb9 ab M g ) (cwV 0 hts gX1_read_X0_length rfl rfl rfl hdv_X0_length ⟨Nat.le_of_ble_eq_true rfl, Nat.le_of_ble_eq_true rfl⟩) (k_preVP hK hP [9, 10] rfl 9 rfl rfl) rfl rfl hl.1 rfl (lv_room (Nat.le_of_ble_eq_true rfl)) dX1_read_10 ⟨Nat.le_of_ble_eq_true rfl, Nat.le_of_ble_eq_true rfl⟩) ?_
      refine lv_icmp_ge (tgt := 71) hx hb dX1_read_13 (by decide) (fun c1 => ?_) (fun c1 => ?_)
      · refine lv_iload_n hx hb dX1_read_71 rfl (lv_at hl 1 rfl) ?_
        exact k_iretW hx hb hr hlocks hP hS (by have hi2 := hi; rw [loopE_exit c1] at hi2; rw [← hi2]; rfl) (by have hi2 := hi; rw [loopE_exit c1] at hi2; rw [← hi2]; rfl) dX1_read_72
      · refine lv_iload_n hx hb dX1_read_16 rfl (lv_at hl 1 rfl) ?_
        refine lv_iconst (v := (-1)) hx hb dX1_read_17 (by decide) ?_
        refine lv_icmp_ne (tgt := 71) hx hb dX1_read_18 (by decide) (fun c2 => ?_) (fun c2 => ?_)
        · refine lv_iload_n hx hb dX1_read_71 rfl (lv_at hl 1 rfl) ?_
          exact k_iretW hx hb hr hlocks hP hS (by have hi2 := hi; rw [loopE_ret (r := ((xi, xs, xk, xl, xu), j)) c1 (by simp only [rw_rstep, if_neg c2])] at hi2; rw [← hi2]) (by have hi2 := hi; rw [loopE_ret (r := ((xi, xs, xk, xl, xu), j)) c1 (by simp only [rw_rstep, if_neg c2])] at hi2; rw [← hi2]) dX1_read_72
        · refine lv_aload_n hx hb dX1_read_21 rfl (lv_at hl 3 rfl) ?_
          refine lv_aload_n hx hb dX1_read_22 rfl (lv_at hl 2 rfl) ?_
          refine k_get (ci := 2) (T := TX1) (N := 8) (C := RX1) hx hb hts inX1 hown hK hP 0 rfl rfl 5 (by decide) fl47 rfl rfl dX1_read_23 ?_
          refine lv_iconst (v := 4) hx hb dX1_read_26 (by decide) ?_
          refine lv_iadd hx hb dX1_read_27 ?_
          refine k_afP (va_runV (rest := []) ⟨hx, hb, hml, hown, hts⟩ (m_X0_at l dC dI cI cJ hb9 ab M g (xu + 4) (by first | assumption | decide)) (cwV 1 hts gX1_read_X0_at rfl rfl rfl hdv_X0_at ⟨Nat.le_of_ble_eq_true rfl, Nat.le_of_ble_eq_true rfl⟩) (k_preVP hK hP [9, 10] rfl 9 rfl rfl) rfl rfl hl.1 rfl (lv_room (Nat.le_of_ble_eq_true rfl)) dX1_read_28 ⟨Nat.le_of_ble_eq_true rfl, Nat.le_of_ble_eq_true rfl⟩) ?_
          refine lv_istore (lv' := [(4, .int (ca_at M g (xu + 4))), (3, .int i), (2, .int j), (0, .ref r), (1, .ref hb9)]) hx hb dX1_read_31 hl (by decide) rfl (fun ls hl => ?_)
          refine lv_aload_n hx hb dX1_read_33 rfl (lv_at hl 3 rfl) ?_
          refine k_get (ci := 2) (T := TX1) (N := 8) (C := RX1) hx hb hts inX1 hown hK hP 0 rfl rfl 0 (by decide) fl14 rfl rfl dX1_read_34 ?_
          refine lv_aload_n hx hb dX1_read_37 rfl (lv_at hl 4 rfl) ?_
          refine lv_aload_n hx hb dX1_read_38 rfl (lv_at hl 3 rfl) ?_
          refine k_get (ci := 2) (T := TX1) (N := 8) (C := RX1) hx hb hts inX1 hown hK hP 0 rfl rfl 5 (by decide) fl47 rfl rfl dX1_read_39 ?_
          refine lv_aload_n hx hb dX1_read_42 rfl (lv_at hl 3 rfl) ?_
          refine k_get (ci := 2) (T := TX1) (N := 8) (C := RX1) hx hb hts inX1 hown hK hP 0 rfl rfl 5 (by decide) fl47 rfl rfl dX1_read_43 ?_
          refine lv_bipush (v := 9) hx hb dX1_read_46 (by decide) ?_
          refine lv_iadd hx hb dX1_read_48 ?_
          refine lv_iload hx hb dX1_read_49 (lv_at hl 0 rfl) ?_
          refine lv_iadd hx hb dX1_read_51 ?_
          refine k_afW (wc := [(qi, .inr (1, [.ref ai])), (ai, .inl (cI, N, .inl xi)), (hb9, .inr (1, [.ref ab])), (ab, .inl (cI, M, .inl g))]) (ws' := [(r, .inr (2, [.ref qi, .ref qs, .ref qk, .ref qt, .int xl, .int xu, .int lod, .int uod])), (qi, .inr (1, [.ref ai])), (ai, .inl (cI, N, .inl (ca_copy N xi M g xu ((xu + 9) + (ca_at M g (xu + 4)))))), (qs, .inr (1, [.ref aS])), (aS, .inl (cI, K, .inl xs)), (qk, .inr (1, [.ref ak])), (ak, .inl (cI, 6, .inl xk)), (qt, .inr (1, [.ref aT])), (aT, .inl (cI, 8, .inl ft)), (hb9, .inr (1, [.ref ab])), (ab, .inl (cI, M, .inl g))]) (va_runV (rest := []) ⟨hx, hb, hml, hown, hts⟩ (m_X0_copy l dC dI cI cJ qi ai N xi hb9 ab M g xu ((xu + 9) + (ca_at M g (xu + 4))) (by first | assumption | decide) (by first | assumption | decide)) (cwV 3 hts gX1_read_X0_copy rfl rfl rfl hdv_X0_copy ⟨Nat.le_of_ble_eq_true rfl, Nat.le_of_ble_eq_true rfl⟩) (k_preVW hK hP hD [1, 2, 9, 10] rfl rfl 1 rfl rfl) rfl rfl hl.1 rfl (lv_room (Nat.le_of_ble_eq_true rfl)) dX1_read_52 ⟨Nat.le_of_ble_eq_true rfl, Nat.le_of_ble_eq_true rfl⟩) hP hD hS [1, 2, 9, 10] rfl rfl rfl rfl (fun H locs hP hD hS => ?_)
          refine lv_aload_n hx hb dX1_read_55 rfl (lv_at hl 3 rfl) ?_
          refine k_afW (wc := [(r, .inr (2, [.ref qi, .ref qs, .ref qk, .ref qt, .int xl, .int xu, .int lod, .int uod])), (qi, .inr (1, [.ref ai])), (ai, .inl (cI, N, .inl (ca_copy N xi M g xu ((xu + 9) + (ca_at M g (xu + 4)))))), (qs, .inr (1, [.ref aS])), (aS, .inl (cI, K, .inl xs)), (qk, .inr (1, [.ref ak])), (ak, .inl (cI, 6, .inl xk)), (qt, .inr (1, [.ref aT])), (aT, .inl (cI, 8, .inl ft))]) (ws' := [(r, .inr (2, [.ref qi, .ref qs, .ref qk, .ref qt, .int (xl + 1), .int (rw_enU N K (ca_copy N xi M g xu ((xu + 9) + (ca_at M g (xu + 4)))) xs xl xu), .int lod, .int uod])), (qi, .inr (1, [.ref ai])), (ai, .inl (cI, N, .inl (ca_copy N xi M g xu ((xu + 9) + (ca_at M g (xu + 4)))))), (qs, .inr (1, [.ref aS])), (aS, .inl (cI, K, .inl (rw_enS K xs xl xu))), (qk, .inr (1, [.ref ak])), (ak, .inl (cI, 6, .inl (rw_enK N K (ca_copy N xi M g xu ((xu + 9) + (ca_at M g (xu + 4)))) xs xk xl xu))), (qt, .inr (1, [.ref aT])), (aT, .inl (cI, 8, .inl ft)), (hb9, .inr (1, [.ref ab])), (ab, .inl (cI, M, .inl g))]) (va_runV (rest := []) ⟨hx, hb, hml, hown, hts⟩ (m_X1_enlistNext l dC dI cI cJ r qi ai qs aS qk ak qt aT N K (ca_copy N xi M g xu ((xu + 9) + (ca_at M g (xu + 4)))) xs xk ft xl xu lod uod (by first | assumption | decide) (by first | assumption | decide)) (cwV 0 hts gX1_read_X1_enlistNext rfl rfl rfl hdv_X1_enlistNext ⟨Nat.le_of_ble_eq_true rfl, Nat.le_of_ble_eq_true rfl⟩) (k_preVW hK hP hD [0, 1, 2, 3, 4, 5, 6, 7, 8] rfl rfl 0 rfl rfl) rfl rfl hl.1 rfl (lv_room (Nat.le_of_ble_eq_true rfl)) dX1_read_56 ⟨Nat.le_of_ble_eq_true rfl, Nat.le_of_ble_eq_true rfl⟩) hP hD hS [0, 1, 2, 3, 4, 5, 6, 7, 8] rfl rfl rfl rfl (fun H locs hP hD hS => ?_)
          refine lv_aload_n hx hb dX1_read_59 rfl (lv_at hl 3 rfl) ?_
          refine lv_aload_n hx hb dX1_read_60 rfl (lv_at hl 4 rfl) ?_
          refine k_afP (va_runV (rest := []) ⟨hx, hb, hml, hown, hts⟩ (m_X1_judgeNext l dC dI cI cJ r qi ai qs aS qk ak qt aT N K (ca_copy N xi M g xu ((xu + 9) + (ca_at M g (xu + 4)))) (rw_enS K xs xl xu) (rw_enK N K (ca_copy N xi M g xu ((xu + 9) + (ca_at M g (xu + 4)))) xs xk xl xu) ft (xl + 1) (rw_enU N K (ca_copy N xi M g xu ((xu + 9) + (ca_at M g (xu + 4)))) xs xl xu) lod uod hb9 ab M g (by first | assumption | decide) (by first | assumption | decide) (by first | assumption | decide)) (cwV 1 hts gX1_read_X1_judgeNext rfl rfl rfl hdv_X1_judgeNext ⟨Nat.le_of_ble_eq_true rfl, Nat.le_of_ble_eq_true rfl⟩) (k_preVP hK hP [0, 1, 2, 3, 4, 5, 6, 7, 8, 9, 10] rfl 0 rfl rfl) rfl rfl hl.1 rfl (lv_room (Nat.le_of_ble_eq_true rfl)) dX1_read_61 ⟨Nat.le_of_ble_eq_true rfl, Nat.le_of_ble_eq_true rfl⟩) ?_
          refine lv_istore_n (lv' := [(2, .int (rw_judge M g (rw_enK N K (ca_copy N xi M g xu ((xu + 9) + (ca_at M g (xu + 4)))) xs xk xl xu) (xl + 1) (rw_enU N K (ca_copy N xi M g xu ((xu + 9) + (ca_at M g (xu + 4)))) xs xl xu))), (4, .int (ca_at M g (xu + 4))), (3, .int i), (0, .ref r), (1, .ref hb9)]) hx hb dX1_read_64 rfl hl (by decide) rfl (fun ls hl => ?_)
          refine lv_iinc (v := i + 1) (lv' := [(3, .int (i + 1)), (2, .int (rw_judge M g (rw_enK N K (ca_copy N xi M g xu ((xu + 9) + (ca_at M g (xu + 4)))) xs xk xl xu) (xl + 1) (rw_enU N K (ca_copy N xi M g xu ((xu + 9) + (ca_at M g (xu + 4)))) xs xl xu))), (4, .int (ca_at M g (xu + 4))), (0, .ref r), (1, .ref hb9)]) hx hb dX1_read_65 hl (k := 2) rfl rfl (by decide) rfl (fun ls hl => ?_)
          refine lv_goto (tgt := 8) hx hb dX1_read_68 (by decide) ?_
          exact ih (i + 1) (ca_copy N xi M g xu ((xu + 9) + (ca_at M g (xu + 4)))) (rw_enS K xs xl xu) (rw_enK N K (ca_copy N xi M g xu ((xu + 9) + (ca_at M g (xu + 4)))) xs xk xl xu) (xl + 1) (rw_enU N K (ca_copy N xi M g xu ((xu + 9) + (ca_at M g (xu + 4)))) xs xl xu) (rw_judge M g (rw_enK N K (ca_copy N xi M g xu ((xu + 9) + (ca_at M g (xu + 4)))) xs xk xl xu) (xl + 1) (rw_enU N K (ca_copy N xi M g xu ((xu + 9) + (ca_at M g (xu + 4)))) xs xl xu)) _ _ ls (by rw [loopE_go c1 (show rw_rstep N K M g _ = _ by simp only [rw_rstep, if_pos c2]; rfl)] at hi; exact hi) (k_meas c1 hm) hP hD hS (lv_sub hl [0, 1, 3, 4] rfl)
  exact loop8 _ 0 fi fs fk last used (rw_judge M g fk last used) _ _ ls rfl (Nat.lt_succ_self _) hP hD hS (lv_sub hl [0, 1, 2, 3] rfl)
end
section
/-! THROWS: what a method that may throw says; the words and statics that a throw asks for -/
abbrev xIAE : String := "java/lang/IllegalArgumentException"
abbrev xUOE : String := "java/lang/UnsupportedOperationException"
abbrev xISE : String := "java/lang/IllegalStateException"
abbrev xNSE : String := "java/util/NoSuchElementException"
abbrev xAIE : String := "java/lang/ArrayIndexOutOfBoundsException"
abbrev xN2 : List String := ["java/lang/RuntimeException", "java/lang/Exception"]
abbrev xNIAE : List String := xN2
abbrev xNUOE : List String := xN2
abbrev xNISE : List String := xN2
abbrev xNNSE : List String := xN2
abbrev xNAIE : List String := ["java/lang/IndexOutOfBoundsException", "java/lang/RuntimeException", "java/lang/Exception"]
abbrev xaIAE : List Cond := vx_atS RX2 55 xIAE xNIAE
abbrev xaUOE : List Cond := vx_atS RX2 68 xUOE xNUOE
abbrev xaISE : List Cond := vx_atS RX2 165 xISE xNISE
abbrev xaNSE : List Cond := vx_atS RX2 138 xNSE xNNSE
abbrev xaAIE : List Cond := vx_atS RX2 188 xAIE xNAIE
/-- the words of throws that aren't kept by the tables' growth alone -/
def gXW : List Cond := (xaIAE ++ xaUOE ++ xaISE ++ xaNSE ++ xaAIE).filter (fun w => !goodWord w)
theorem gXW_face : ∀ w ∈ gXW, w.faceAtom = true := by decide +kernel
theorem gXW_on : ∀ w ∈ gXW, w.onTables = true := by decide +kernel
theorem xb_of {L : List Cond} (h : ∀ w ∈ L, w ∈ xaIAE ++ xaUOE ++ xaISE ++ xaNSE ++ xaAIE) : ∀ w ∈ L.filter (fun w => !goodWord w), w ∈ gXW := fun w hw => by
  obtain ⟨h1, h2⟩ := List.mem_filter.mp hw
  exact List.mem_filter.mpr ⟨h w h1, h2⟩
theorem xbIAE : ∀ w ∈ xaIAE.filter (fun w => !goodWord w), w ∈ gXW := xb_of (fun _ h => List.mem_append_left _ (List.mem_append_left _ (List.mem_append_left _ (List.mem_append_left _ h))))
theorem xbUOE : ∀ w ∈ xaUOE.filter (fun w => !goodWord w), w ∈ gXW := xb_of (fun _ h => List.mem_append_left _ (List.mem_append_left _ (List.mem_append_left _ (List.mem_append_right _ h))))
theorem xbISE : ∀ w ∈ xaISE.filter (fun w => !goodWord w), w ∈ gXW := xb_of (fun _ h => List.mem_append_left _ (List.mem_append_left _ (List.mem_append_right _ h)))
theorem xbNSE : ∀ w ∈ xaNSE.filter (fun w => !goodWord w), w ∈ gXW := xb_of (fun _ h => List.mem_append_left _ (List.mem_append_right _ h))
theorem xbAIE : ∀ w ∈ xaAIE.filter (fun w => !goodWord w), w ∈ gXW := xb_of (fun _ h => List.mem_append_right _ h)
theorem xgIAE : ∀ w ∈ Cond.classLink RX2 51 xIAE :: Cond.initialized xIAE :: xaIAE, vx_ot w = true := by decide +kernel
theorem xgUOE : ∀ w ∈ Cond.classLink RX2 64 xUOE :: Cond.initialized xUOE :: xaUOE, vx_ot w = true := by decide +kernel
theorem xgISE : ∀ w ∈ Cond.classLink RX2 161 xISE :: Cond.initialized xISE :: xaISE, vx_ot w = true := by decide +kernel
theorem xgNSE : ∀ w ∈ Cond.classLink RX2 134 xNSE :: Cond.initialized xNSE :: xaNSE, vx_ot w = true := by decide +kernel
theorem xgAIE : ∀ w ∈ Cond.classLink RX2 184 xAIE :: Cond.initialized xAIE :: xaAIE, vx_ot w = true := by decide +kernel
def gStr : List (Nat × String) := [(53, "a byte is 0 .. 255"), (66, "a row has at most twenty bytes"), (73, "a whole state is not told byte by byte"), (111, "not so many bytes in memory"), (113, "a cut's mask is 0 .. 255"), (125, "a poke's mask is 1 .. 255"), (136, "no such row"), (148, "no such thing to ask of a row"), (150, "rows of a kind are counted from 0 on"), (163, "there is no backup"), (178, "no such kind"), (180, "the disk is down"), (182, "the disk is full"), (186, "no such byte of the disk"), (189, "no such byte of the row")]
def gT (U : State) : Prop := (∀ w ∈ gXW, va_Nw w U) ∧ ∀ q ∈ gStr, ∃ sa : Nat, vk_R RX2 q.1 q.2 sa U
theorem gT.warm {s U : State} (hW : s.WarmedH U.vm) (h : gT s) : gT U :=
  ⟨fun w hw => va_tabs (gXW_on w hw) (rfl : (s.setVm U.vm).vm = U.vm) (Cond.faceAtom_setVm hW.alike w (gXW_face w hw) (h.1 w hw)), fun q hq => (h.2 q hq).imp fun _ z => z.warm hW⟩
theorem gT.call {U : State} {g : JFrame} {mk : MethodId} {a : Array Value} (h : gT U) : gT (U.calling g mk a) :=
  ⟨fun w hw => va_Nw.same (gXW_on w hw) (u := U) rfl (h.1 w hw), fun q hq => (h.2 q hq).imp fun _ z => z.same (u := U) rfl⟩
/-- Throwable's two statics, in a heap, outside the cells of L -/
def gZ (L : List Nat) (U : State) (H : Heap) : Prop := vx_Zq Bundle.tN "UNASSIGNED_STACK" Bundle.steD (mA L) U H ∧ vx_Zq Bundle.tN "SUPPRESSED_SENTINEL" Bundle.listD (mA L) U H
theorem gZ.moved {L : List Nat} {u U : State} {H : Heap} (h : u.vm.Alike U.vm) (hz : gZ L u H) : gZ L U H := ⟨vx_Zq.moved h hz.1, vx_Zq.moved h hz.2⟩
theorem gZ.kept {L : List Nat} {U : State} {H H1 : Heap} (hz : gZ L U H) (hq : ∀ a : Nat, a < H.size → ¬ mA L a → H1[a]? = H[a]?) : gZ L U H1 := ⟨hz.1.kept hq, hz.2.kept hq⟩
theorem gZ.narrow {L L2 : List Nat} {U : State} {H : Heap} (hz : gZ L U H) (hq : ∀ q, mA L2 q → mA L q) : gZ L2 U H := ⟨hz.1.narrow hq, hz.2.narrow hq⟩
def mPt (dC : Nat → ClassId) (dI : Nat → Nat → Nat) (cI cJ : ClassId) (ws : va_W) (L : List Nat) (U : State) : Prop := va_P (dC, dI) vwCl ws U.heap ∧ gK dC dI cI cJ U ∧ va_D (fun _ => True) ws ∧ gT U ∧ gZ L U U.heap
def tQ (dC : Nat → ClassId) (dI : Nat → Nat → Nat) (ex : Option String) (ws' : va_W) (L : List Nat) (r : Option Value) : Array Value → State → Outcome → State → Prop := fun _ st o t => ex = none ∧ o = .returned r ∧ va_P (dC, dI) vwCl ws' t.heap ∧ va_F (mA L) st t
def tX (dC : Nat → ClassId) (dI : Nat → Nat → Nat) (ex : Option String) (ws : va_W) (L : List Nat) : String → State → State → Prop := fun E st t => ex = some E ∧ va_P (dC, dI) vwCl ws t.heap ∧ va_F (mA L) st t
abbrev cT (l : Launch) (y : MethodName) (wl : List Cond) (rm : Room) (dC : Nat → ClassId) (dI : Nat → Nat → Nat) (cI cJ : ClassId) (ws ws' : va_W) (L : List Nat) (av : List Value) (ex : Option String) (r : Option Value) (mc ms : Nat) : Prop := vx_Met l y wl rm (va_Pc av (mPt dC dI cI cJ ws L)) (tQ dC dI ex ws' L r) (tX dC dI ex ws L) mc ms (mA L)
section KT
variable {p : Program} {l : Launch} {e : Env} {R : Room} {s : State} {m : MethodId} {args : Array Value} {below : List Frame} {meth : Method} {c : Code} {H : Heap} {locs : List Loc} {cells slots : Nat} {Q : State → Prop}
variable {dC : Nat → ClassId} {dI : Nat → Nat → Nat} {cI cJ : ClassId} {ws ws' ws0 wc wc' : va_W} {A : Nat → Prop} {pc : Nat} {ls : Array Slot} {rest st0 : List Value} {av : List Value} {L Lc : List Nat} {ex exc : Option String} {rr : Option Value} {mc ms : Nat}
theorem k_blT : FrameBlind (va_Pc av (mPt dC dI cI cJ ws L)) := fun _ U g mk q => ⟨q.1, q.2.1, q.2.2.1.call, q.2.2.2.1, q.2.2.2.2.1.call, gZ.moved (u := U) (U := U.calling g mk _) (Vm.Alike.refl U.vm) q.2.2.2.2.2⟩
theorem k_inA (hD : va_D A ws) {is : List Nat} (hs : is.map (fun i => ws[i]?) = wc.map some) (hL : wc.map Prod.fst = Lc) : ∀ q : Nat, mA Lc q → A q := fun q hq => by
  have hq : q ∈ Lc := hq
  rw [← hL] at hq
  obtain ⟨x, hx, rfl⟩ := List.mem_map.mp hq
  obtain ⟨k, hk⟩ := List.mem_iff_getElem?.mp hx
  have h1 : (wc.map some)[k]? = some (some x) := by simp [hk]
  rw [← hs, List.getElem?_map] at h1
  cases hi : is[k]? with
  | none => rw [hi] at h1; cases h1
  | some i => rw [hi] at h1; exact hD.2 i x (Option.some.inj h1)
theorem k_preVT {C : String} {T : u_T} {N ci b : Nat} {fs : List Value} {As : List Value} (hK : gK dC dI cI cJ s) (hP : va_P (dC, dI) vwCl ws H) (hD : va_D (mA L) ws) (hS : va_S (mA L) s.heap H locs) (hT : gT s) (hZ : gZ L s s.heap) (is : List Nat) (hn : va_nd is = true) (hs : is.map (fun i => ws[i]?) = wc.map some) (hL : wc.map Prod.fst = Lc) (q0 : Nat) (hc : vwCl[ci]? = some (C, T, N)) (he : ws[q0]? = some (b, .inr (ci, fs))) : PreV s H C b (va_Pc (.ref b :: As) (mPt dC dI cI cJ wc Lc)) As :=
  ⟨k_blT, k_recv hK hP q0 hc he, fun U hU hW => ⟨rfl, by rw [hU]; exact k_subP hP hs, hK.warm hW, (hD.sub is hn hs).weaken (fun _ _ _ _ => trivial), hT.warm hW, by
    rw [hU]
    exact gZ.moved hW.alike ((hZ.kept hS.2.1).narrow (k_inA hD hs hL))⟩⟩
/-- behind a call that may throw -/
theorem k_afT {r : Option Value} {a : Array Value} (hr : vx_Run p l e R s m args below meth c H locs cells slots mc ms (F0 m pc ls st0) rest (tQ dC dI exc wc' Lc r a) (tX dC dI exc wc Lc) (mA Lc))
    (hP : va_P (dC, dI) vwCl ws H) (hD : va_D A ws) (hS : va_S A s.heap H locs) (is : List Nat) (hs : is.map (fun i => ws[i]?) = wc.map some) (hL : wc.map Prod.fst = Lc) (hadr : wc'.map Prod.fst = Lc) (hput : k_put ws is wc' = ws')
    (kx : ∀ (E : String) (ce : Cell) (q9 : Addr) (H1 : Heap) (locs1 : List Loc), exc = some E → va_P (dC, dI) vwCl ws H1 → va_S A s.heap H1 locs1 → H1[q9]? = some ce → ce.vm = .none → s.vm.findClass E = some ce.cls → vx_W p l e R s m args below meth c H1 locs1 (cells + mc) (slots + ms) Q (F0 m pc ls rest) q9)
    (kk : exc = none → ∀ (H1 : Heap) (locs1 : List Loc), va_P (dC, dI) vwCl ws' H1 → va_D A ws' → va_S A s.heap H1 locs1 → W p l e R s m args below meth c H1 locs1 (cells + mc) (slots + ms) Q (F0 m (pc + 3) ls (r.toList ++ rest))) : W p l e R s m args below meth c H locs cells slots Q (F0 m pc ls st0) := by
  intro T hT X
  have hLw := k_inA hD hs hL
  rcases hr T hT X with ⟨v, st₀, t, T', Lo, h0, X', hLo, e1, -, ⟨hex, hv, hP1, hz, hk⟩, st⟩ | ⟨q, st₀, t, T', Lo, E, ce, h0, X', hLo, e1, -, ⟨hex, hP1, hz, hk⟩, hce, hcv, hcl, st⟩
  · cases hv
    rw [h0] at hz hk
    obtain ⟨hPn, hDn, hSn⟩ := k_join (t := t.heap) hP hD hS is hs hL hadr hput hP1 hz hk hLo
    obtain ⟨t2, a1, b1⟩ := kk hex T'.heap (locs ++ Lo) (by rw [e1]; exact hPn) hDn (by rw [e1]; exact hSn) T' rfl X'
    exact ⟨t2, st t2 a1, b1⟩
  · rw [h0] at hz hk
    have hput2 : k_put ws is wc = ws := k_putSame is wc ws hs
    obtain ⟨hPn, hDn, hSn⟩ := k_join (t := t.heap) hP hD hS is hs hL hL hput2 hP1 hz hk hLo
    obtain ⟨t2, a1, b1⟩ := kx E ce q T'.heap (locs ++ Lo) hex (by rw [e1]; exact hPn) (by rw [e1]; exact hSn) (by rw [e1]; exact hce) hcv hcl T' rfl X'
    exact ⟨t2, st.trans a1, b1⟩
/-- throw new E("text") -/
theorem k_throw {cc : ByteArray} (hexec : p.tables.exec = Jvm.exec) (hb : c.code = cc) (hl : l.stackTraces = false) {cls text : String} {names : List String} {ik is ic : Nat}
    (hown : s.vm.findClass RX2 = some m.cls) (hcls : Bundle.fit cls = true) (hnames : ∀ n ∈ names, Bundle.fit n = true)
    (hk : (Cond.classLink RX2 ik cls).before args s = true) (hini : (Cond.initialized cls).before args s = true) (hat : ∀ w ∈ vx_atS RX2 ic cls names, w.before args s = true)
    (hgood : ∀ w ∈ Cond.classLink RX2 ik cls :: Cond.initialized cls :: vx_atS RX2 ic cls names, vx_ot w = true)
    (hT : gT s) (hstr : (is, text) ∈ gStr) (hZ : gZ L s s.heap) (hP : va_P (dC, dI) vwCl ws H) (hS : va_S (mA L) s.heap H locs) (hsize : ls.size = c.maxLocals)
    (d0 : decode cc pc = .ok (.new ik, 3)) (d3 : decode cc (pc + 3) = .ok (.dup, 1)) (d4 : decode cc (pc + 4) = .ok (.ldc is, 2)) (d6 : decode cc (pc + 6) = .ok (.invokespecial ic, 3)) (d9 : decode cc (pc + 9) = .ok (.athrow, 1))
    (hno : ∀ x ∈ c.exceptionTable.toList, False)
    (hRframes : names.length + 3 < R.frames) (hRlocals : (rest.map fun v => v.category).sum + (13 * (names.length + 1) + 43) ≤ R.locals) (hRcells : cells + 1 ≤ R.cells) (hRslots : slots + 6 ≤ R.slots) (hlocks : meth.locks = false)
    (hex : ex = some cls) (hw : ws = ws0) (hc : cells + 1 ≤ mc) (hs : slots + 6 ≤ ms) :
    W p l e R s m args below meth c H locs cells slots (vx_MQ below (tQ dC dI ex ws' L rr) (tX dC dI ex ws0 L) args s mc ms (mA L)) (F0 m pc ls rest) := by
  subst hw
  obtain ⟨sa, hsa⟩ := hT.2 _ hstr
  refine vx_throwS (A := mA L) (sa := sa) hexec hb hl hown hcls hnames hk hini hsa hat hgood hZ.1 hZ.2 hS hsize d0 d3 d4 d6 d9 (fun x hx => (hno x hx).elim) hRframes hRlocals hRcells hRslots hlocks (fun t ht h1 h2 => ⟨hex, hP.kept (fun k q hq => h2 q.1 (hP k q hq).lt), Nat.le_trans hS.1 h1, fun q g1 g2 => ?_⟩) hS.2.2 hc hs
  rw [h2 q (Nat.lt_of_lt_of_le g1 hS.1)]
  exact hS.2.1 q g1 g2
theorem k_outT {E : String} {ce : Cell} {q : Addr} (hno : ∀ x ∈ c.exceptionTable.toList, False) (hlocks : meth.locks = false) (hcell : H[q]? = some ce) (hv : ce.vm = .none) (hcl : s.vm.findClass E = some ce.cls) (hP : va_P (dC, dI) vwCl ws H) (hS : va_S (mA L) s.heap H locs) (hex : ex = some E) (hw : ws = ws0) (hc : cells ≤ mc) (hs : slots ≤ ms) :
    vx_W p l e R s m args below meth c H locs cells slots (vx_MQ below (tQ dC dI ex ws' L rr) (tX dC dI ex ws0 L) args s mc ms (mA L)) (F0 m pc ls rest) q := by
  subst hw
  exact vx_out (fun x hx => (hno x hx).elim) hlocks hcell hv hcl (fun t ht _ => ⟨hex, by rw [ht]; exact hP, hS.F ht⟩) hS.2.2 hc hs
theorem k_iretT {cc : ByteArray} {v : Int32} (hexec : p.tables.exec = Jvm.exec) (hb : c.code = cc) (hr : meth.sig.returnType = some .int) (hlocks : meth.locks = false) (hP : va_P (dC, dI) vwCl ws H) (hS : va_S (mA L) s.heap H locs) (hex : ex = none) (hv : some (.int v) = rr) (hw : ws = ws') (hc : cells ≤ mc) (hs : slots ≤ ms) (hdg : decode cc pc = .ok (.ireturn, 1)) :
    W p l e R s m args below meth c H locs cells slots (vx_MQ below (tQ dC dI ex ws' L rr) (tX dC dI ex ws0 L) args s mc ms (mA L)) (F0 m pc ls [.int v]) := by
  subst hw; subst hv
  exact vx_ret (W.widen hc hs (W.iret hexec hb hr (fun t ht _ => ⟨hex, rfl, by rw [ht]; exact hP, hS.F ht⟩) hS.2.2 hdg))
theorem k_vretT {cc : ByteArray} (hexec : p.tables.exec = Jvm.exec) (hb : c.code = cc) (hr : meth.sig.returnType = none) (hlocks : meth.locks = false) (hP : va_P (dC, dI) vwCl ws H) (hS : va_S (mA L) s.heap H locs) (hex : ex = none) (hw : ws = ws') (hc : cells ≤ mc) (hs : slots ≤ ms) (hdg : decode cc pc = .ok (.return_, 1)) :
    W p l e R s m args below meth c H locs cells slots (vx_MQ below (tQ dC dI ex ws' L none) (tX dC dI ex ws0 L) args s mc ms (mA L)) (F0 m pc ls []) := by
  subst hw
  exact vx_ret (W.widen hc hs (W.vret hexec hb hr (fun t ht _ => ⟨hex, rfl, by rw [ht]; exact hP, hS.F ht⟩) hS.2.2 hdg))
end KT
theorem goodIn_mono {big ws e : List Cond} (h : GoodIn big ws) : GoodIn (big ++ e) ws := fun w hw => ⟨List.mem_append_left _ (h w hw).1, (h w hw).2⟩
theorem goodIn_ext {big ws e : List Cond} (h : GoodIn big ws) (he : e.all goodWord = true) : GoodIn (big ++ e) (ws ++ e) := fun w hw => (List.mem_append.mp hw).elim (fun h1 => ⟨List.mem_append_left _ (h w h1).1, (h w h1).2⟩) (fun h1 => ⟨List.mem_append_right _ h1, good_of_word (List.all_eq_true.mp he w h1)⟩)
theorem xaAIE_good : (xaAIE.filter goodWord).all goodWord = true := List.all_eq_true.mpr fun _ h => (List.mem_filter.mp h).2
def wqX2_placeOf : List Cond := wsX2_placeOf ++ xaAIE.filter goodWord
def wqX2_poke : List Cond := wsX2_poke ++ xaAIE.filter goodWord
def wqX2_byteOf : List Cond := wsX2_byteOf ++ xaAIE.filter goodWord
theorem gqX2_poke_X2_placeOf : GoodIn wqX2_poke (wsV RX2 127 RX2 yX2_placeOf wqX2_placeOf) := by
  rw [wsV, wqX2_placeOf, ← List.append_assoc]
  exact goodIn_ext gX2_poke_X2_placeOf xaAIE_good
theorem gqX2_byteOf_X2_placeOf : GoodIn wqX2_byteOf (wsV RX2 127 RX2 yX2_placeOf wqX2_placeOf) := by
  rw [wsV, wqX2_placeOf, ← List.append_assoc]
  exact goodIn_ext gX2_byteOf_X2_placeOf xaAIE_good
theorem gqX2_poke_X0_at : GoodIn wqX2_poke (wsV RX2 115 RX0 yX0_at wsX0_at) := goodIn_mono gX2_poke_X0_at
theorem gqX2_poke_X0_set : GoodIn wqX2_poke (wsV RX2 69 RX0 yX0_set wsX0_set) := goodIn_mono gX2_poke_X0_set
theorem gqX2_byteOf_X0_at : GoodIn wqX2_byteOf (wsV RX2 115 RX0 yX0_at wsX0_at) := goodIn_mono gX2_byteOf_X0_at
end
