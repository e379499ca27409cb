/-! an exception that is caught behind rows of the table that name other classes: the search resolves the rows' classes as it goes -/
/-- one covered row that links to the class ct: it takes the object if its class fits, else the search goes on, in the noted tables -/
theorem xs_row {e : Env} {S : State} {f : JFrame} {a : Addr} {cell : Cell} {Q : Handler → Pre} {E : CtlPost} {d : Bool} {acts : List Action} {z : ExceptionTableEntry} {t : List ExceptionTableEntry} {ct : ClassId}
    (hz : covers z f.pc = true) (h0 : z.catchType ≠ 0) (hl : S.vm.ClassLinks e.platform f.method.cls z.catchType ct) (hcell : S.heap[a]? = some cell) (hobj : ∀ k, cell.vm ≠ .statics k)
    (hk : ∃ k, S.vm.classes[cell.cls]? = some k) (hc : ∃ k, S.vm.classes[ct]? = some k) :
    wp (findHandler.go f a (z :: t)) Q E e d acts S ↔ (if S.vm.assignable cell.cls ct = true then Q (.found z.handlerPc) d acts (S.setVm (S.vm.noted f.method.cls z.catchType (.cls ct))) else wp (findHandler.go f a t) Q E e d acts (S.setVm (S.vm.noted f.method.cls z.catchType (.cls ct)))) := by
  simp only [covers] at hz
  have hal : S.vm.Alike (S.vm.noted f.method.cls z.catchType (.cls ct)) := (Vm.Alike.refl S.vm).noted _ _ _
  obtain ⟨ha, ht⟩ := (resolveClass_links e.toSetting hl).op (op := VmOp.resolveClass f.method.cls z.catchType) rfl
  obtain ⟨k1, hk1⟩ := hk
  obtain ⟨k2, hk2⟩ := hc
  obtain ⟨k3, hk3, -⟩ := hal.2.2 _ _ hk1
  obtain ⟨k4, hk4, -⟩ := hal.2.2 _ _ hk2
  cases hfit : S.vm.assignable cell.cls ct
  · have h' : (S.vm.noted f.method.cls z.catchType (.cls ct)).assignable cell.cls ct = false := by rw [hal.assignable]; exact hfit
    simp [findHandler.go, hz, h0, ha, ht, hcell, hobj, hk3, hk4, h', VmOp.dirties, VmOp.acts]
  · have h' : (S.vm.noted f.method.cls z.catchType (.cls ct)).assignable cell.cls ct = true := by rw [hal.assignable]; exact hfit
    simp [findHandler.go, hz, h0, ha, ht, hcell, hobj, hk3, hk4, h', VmOp.dirties, VmOp.acts]
/-- the whole search: rows that are passed, then the row that takes it -/
theorem xs_find {e : Env} {s₀ : State} {f : JFrame} {a : Addr} {cell : Cell} (hobj : ∀ k, cell.vm ≠ .statics k) (hk0 : ∃ k, s₀.vm.classes[cell.cls]? = some k)
    (x : ExceptionTableEntry) (suf : List ExceptionTableEntry) (hx : covers x f.pc = true) (h0 : x.catchType ≠ 0) {ct : ClassId} (hl : s₀.vm.ClassLinks e.platform f.method.cls x.catchType ct) (hfit : s₀.vm.assignable cell.cls ct = true) :
    ∀ (pre : List ExceptionTableEntry) (S : State), s₀.WarmedH S.vm → S.heap[a]? = some cell →
      (∀ z ∈ pre, covers z f.pc = false ∨ (z.catchType ≠ 0 ∧ ∃ cz, s₀.vm.ClassLinks e.platform f.method.cls z.catchType cz ∧ s₀.vm.assignable cell.cls cz = false)) →
      ∃ vm', s₀.WarmedH vm' ∧ ∀ (Q : Handler → Pre) (E : CtlPost) (d : Bool) (acts : List Action), wp (findHandler.go f a (pre ++ x :: suf)) Q E e d acts S ↔ Q (.found x.handlerPc) d acts (S.setVm vm') := by
  obtain ⟨k0, hk0⟩ := hk0
  intro pre
  induction pre with
  | nil =>
    intro S hW hcell _
    obtain ⟨k1, hk1, -⟩ := hW.alike.2.2 _ _ hk0
    obtain ⟨dk, _, _, kt, hd, _, _, _, _, hkt, _, hopen⟩ := hl.here
    obtain ⟨k2, hk2, -⟩ := hW.alike.2.2 _ _ hkt
    refine ⟨_, hW.noted hd hopen (State.rightAt_cls hl), fun Q E d acts => ?_⟩
    rw [List.nil_append, xs_row hx h0 (hW.classLinks hl) hcell hobj ⟨k1, hk1⟩ ⟨k2, hk2⟩, if_pos (by rw [hW.alike.assignable]; exact hfit)]
  | cons z zs ih =>
    intro S hW hcell hpass
    obtain ⟨k1, hk1, -⟩ := hW.alike.2.2 _ _ hk0
    have hrest := fun w (hw : w ∈ zs) => hpass w (List.mem_cons_of_mem _ hw)
    cases hcov : covers z f.pc with
    | false =>
      obtain ⟨vm', hW', hq⟩ := ih S hW hcell hrest
      refine ⟨vm', hW', fun Q E d acts => ?_⟩
      rw [List.cons_append, Jvm.W.findHandler_go_skip hcov]
      exact hq Q E d acts
    | true =>
      rcases hpass z List.mem_cons_self with h | ⟨hz0, cz, hlz, hno⟩
      · rw [h] at hcov; cases hcov
      · obtain ⟨dk, _, _, kt, hd, _, _, _, _, hkt, _, hopen⟩ := hlz.here
        obtain ⟨k2, hk2, -⟩ := hW.alike.2.2 _ _ hkt
        obtain ⟨vm', hW', hq⟩ := ih (S.setVm (S.vm.noted f.method.cls z.catchType (.cls cz))) (hW.noted hd hopen (State.rightAt_cls hlz)) hcell hrest
        refine ⟨vm', hW', fun Q E d acts => ?_⟩
        rw [List.cons_append, xs_row hcov hz0 (hW.classLinks hlz) hcell hobj ⟨k1, hk1⟩ ⟨k2, hk2⟩, if_neg (by rw [hW.alike.assignable, hno]; decide)]
        exact hq Q E d acts
/-- one step: the frame goes on at the handler -/
theorem xs_catch {e : Env} {s : State} {a : Addr} {f : JFrame} {r : List Frame} {pc : Nat} {vm' : Vm} (hfind : ∀ (Q : Handler → Pre) (E : CtlPost) (d : Bool) (acts : List Action), wp (findHandler f a) Q E e d acts s ↔ Q (.found pc) d acts (s.setVm vm')) :
    (stepThrowing e s a (.java f :: r)).Is ((s.setVm vm').setFrames (.java { f with pc := pc, stack := [.ref a] } :: r)) [] := by
  simp only [stepThrowing, searchFrame, vmDo]
  generalize hr : Sem.go _ e false [] s = res
  obtain ⟨as, rfl, ha⟩ := Sem.eq_ok_of hr (a := Handler.found pc) (s' := s.setVm vm') (acts' := []) (by simp [hfind _ _ _ _])
  exact ⟨rfl, ha⟩
theorem xs_caught {p : Program} {l : Launch} {e : Env} {R : Room} {s : State} {m : MethodId} {args : Array Value} {below : List Frame} {meth : Method} {c : Code} {T : State} {locs : List Loc} {cells slots : Nat}
    (X : Stand p l e R s m args below meth c T locs cells slots) (a : Addr) {g : JFrame} (hg : g.method = m) {cell : Cell} (hcell : T.heap[a]? = some cell) (hobj : cell.vm.isStatics = false) (hk0 : ∃ k, s.vm.classes[cell.cls]? = some k)
    (pre : List ExceptionTableEntry) (x : ExceptionTableEntry) (suf : List ExceptionTableEntry) (hsplit : c.exceptionTable.toList = pre ++ x :: suf)
    (hpass : ∀ z ∈ pre, covers z g.pc = false ∨ (z.catchType ≠ 0 ∧ ∃ cz, s.vm.ClassLinks e.platform m.cls z.catchType cz ∧ s.vm.assignable cell.cls cz = false))
    (hx : covers x g.pc = true) (h0 : x.catchType ≠ 0) {ct : ClassId} (hl : s.vm.ClassLinks e.platform m.cls x.catchType ct) (hfit : s.vm.assignable cell.cls ct = true) :
    ∃ vm', Stand p l e R s m args below meth c (T.setVm vm') locs cells slots ∧ ∀ target, Steps p.tables e below ((T.setVm vm').setTop { g with pc := x.handlerPc, stack := [.ref a] }) target → Steps p.tables e below ((T.setTop g).pushFrame (.throwing a)) target := by
  subst hg
  have h : At T g.method c below := X.here
  obtain ⟨hgo, hw⟩ := h.throwing a
  obtain ⟨vm', hW', hq⟩ := xs_find (e := e) (s₀ := s) (f := g) (a := a) (cell := cell) (VmData.ne_statics_of hobj) hk0 x suf hx h0 hl hfit pre ((T.setTop g).pushFrame (.throwing a)) X.warmed hcell hpass
  refine ⟨vm', X.noted hW', fun target hrest => Steps.head hgo hw ?_⟩
  have hfind : ∀ (Q : Handler → Pre) (E : CtlPost) (d : Bool) (acts : List Action), wp (findHandler g a) Q E e d acts ((T.setTop g).pushFrame (.throwing a)) ↔ Q (.found x.handlerPc) d acts (((T.setTop g).pushFrame (.throwing a)).setVm vm') := fun Q E d acts => (Jvm.W.findHandler_eq (s := (T.setTop g).pushFrame (.throwing a)) (meth := meth) (code := c) X.method' X.code).trans (by rw [hsplit]; exact hq Q E d acts)
  rw [stepThread_throwing (frames_entered h.top _), (xs_catch hfind).1]
  obtain ⟨g₀, hg0⟩ := Option.isSome_iff_exists.mp h.top
  obtain ⟨r, hr⟩ := State.topJava?_eq_some.mp hg0
  have hr2 : (T.setVm vm').frames = .java g₀ :: r := hr
  rw [State.setTop_of_frames _ hr2] at hrest
  rw [State.setTop_of_frames _ hr, State.pushFrame, State.setFrames_setFrames, hr]
  rw [show ((T.setFrames (Frame.throwing a :: (T.setFrames (Frame.java g :: r)).frames)).setVm vm') = (T.setVm vm').setFrames (Frame.throwing a :: (T.setFrames (Frame.java g :: r)).frames) from rfl, State.setFrames_setFrames]
  exact hrest
