def xnW : List Cond := xnL.filter vx_no
theorem xbN : ∀ w ∈ xnW.filter (fun w => !goodWord w), w ∈ gXW := by decide +kernel
theorem xgN : ∀ w ∈ Cond.classLink RX2 134 xNSE :: Cond.initialized xNSE :: xnW, vx_ot w = true := by decide +kernel
section XN2
variable {p : Program} {l : Launch} {e : Env} {R : Room} {s : State} {m : MethodId} {args : Array Value} {below : List Frame} {meth : Method} {c : Code} {H : Heap} {locs : List Loc} {cells slots : Nat}
variable {mc ms : Nat} {free : Addr → Prop} {A : Nat → Prop} {ls : Array Slot} {rest : List Value}
variable {Qc : Array Value → State → Outcome → State → Prop} {XC : String → State → State → Prop}
theorem xn_throw {cc : ByteArray} {pc : Nat} (hexec : p.tables.exec = Jvm.exec) (hb : c.code = cc) (hl : l.stackTraces = false) {text : String} {is sa : Nat}
    (hown : s.vm.findClass RX2 = some m.cls) (hk : (Cond.classLink RX2 134 xNSE).before args s = true) (hini : (Cond.initialized xNSE).before args s = true) (hstr : vk_R RX2 is text sa s) (hat : ∀ w ∈ xnW, w.before args s = true)
    (hU : vx_Zq Bundle.tN "UNASSIGNED_STACK" Bundle.steD A s s.heap) (hN : vx_Zq Bundle.tN "SUPPRESSED_SENTINEL" Bundle.listD A s s.heap) (hS : va_S A s.heap H locs) (hsize : ls.size = c.maxLocals)
    (d0 : decode cc pc = .ok (.new 134, 3)) (d3 : decode cc (pc + 3) = .ok (.dup, 1)) (d4 : decode cc (pc + 4) = .ok (.ldc is, 2)) (d6 : decode cc (pc + 6) = .ok (.invokespecial 138, 3)) (d9 : decode cc (pc + 9) = .ok (.athrow, 1))
    (hout : ∀ x ∈ c.exceptionTable.toList, covers x (pc + 9) = false)
    (hRframes : 5 < R.frames) (hRlocals : (rest.map fun v => v.category).sum + 82 ≤ R.locals) (hRcells : cells + 1 ≤ R.cells) (hRslots : slots + 6 ≤ R.slots) (hlocks : meth.locks = false)
    (hx : ∀ t : State, s.vm.Alike t.vm → H.size ≤ t.heap.size → (∀ q : Nat, q < H.size → t.heap[q]? = H[q]?) → XC xNSE s t)
    (hf : ∀ z ∈ locs, free z.base) (hc : cells + 1 ≤ mc) (hs : slots + 6 ≤ ms) :
    W p l e R s m args below meth c H locs cells slots (vx_MQ below Qc XC args s mc ms free) (F0 m pc ls rest) := by
  intro T hT X
  have htr : e.platform.stackTraces = false := (show e.platform.stackTraces = l.stackTraces by rw [X.admits.platform]).trans hl
  have Y := vx_rebase X (R' := { frames := R.frames, locals := R.locals, cells := 1, slots := 6 }) (Nat.le_refl _) (Nat.le_refl _) hRcells hRslots
  obtain ⟨s', hA⟩ : ∃ z, z = (T.setVm s.vm).setFrames (.invoking m args :: below) := ⟨_, rfl⟩
  rw [← hA] at Y
  have hvm : s'.vm = s.vm := by rw [hA]; rfl
  have hhp : s'.heap = H := by rw [hA]; exact hT
  have hW0 : s.WarmedH s'.vm := by rw [hvm]; exact State.WarmedH.refl s
  have hat' : ∀ w ∈ xnW, w.before args s' = true := fun w hw => vx_ot_at hW0 hvm.symm (xgN w (List.mem_cons_of_mem _ (List.mem_cons_of_mem _ hw))) (hat w hw)
  have hk' : (Cond.classLink RX2 134 xNSE).before args s' = true := vx_ot_at hW0 hvm.symm (xgN _ List.mem_cons_self) hk
  have hini' : (Cond.initialized xNSE).before args s' = true := vx_ot_at hW0 hvm.symm (xgN _ (List.mem_cons_of_mem _ List.mem_cons_self)) hini
  have hU' : vx_Zq Bundle.tN "UNASSIGNED_STACK" Bundle.steD A s' s'.heap := by rw [hhp]; exact vx_Zq.moved hW0.alike (hU.kept hS.2.1)
  have hN' : vx_Zq Bundle.tN "SUPPRESSED_SENTINEL" Bundle.listD A s' s'.heap := by rw [hhp]; exact vx_Zq.moved hW0.alike (hN.kept hS.2.1)
  have h : ∀ w ∈ xnL, w.before args s' = true := vx_own hat' (vx_isRefq hU'.1) (vx_isRefq hN'.1) hU'.2.word hN'.2.word
  have hown' : s'.vm.findClass RX2 = some m.cls := by rw [hvm]; exact hown
  have hins : (Cond.instantiable xNSE 6).before args s' = true := h _ (xn_T _ (by decide +kernel))
  obtain ⟨vm₁, cX, kX, hfX, hkX, -, -, X₁, st1⟩ := Y.newCold hexec (own := RX2) (C := xNSE) (index := 134) (n := 6) hown' hk' hins hini'
    (g := F0 m pc ls rest) rfl (by rw [hb]; exact d0) (Nat.le_refl _) (Nat.le_refl _)
  generalize hT1 : (T.setVm vm₁).pushCell { cls := cX, slots := kX.instanceTypes.map defaultValue, vm := .none } = T1 at X₁ st1
  have hcat : (Value.ref T.heap.size).category = 1 := rfl
  have hcellA : T1.heap[T.heap.size]? = some (freshCell cX kX) := by rw [← hT1]; exact State.heap_pushCell_size _ _
  have d3' : decode c.code (pc + 3) = .ok (.dup, 1) := by rw [hb]; exact d3
  have d4' : decode c.code (pc + 4) = .ok (.ldc is, 2) := by rw [hb]; exact d4
  have hstr' : vk_R RX2 is text sa s' := vk_R.warm hW0 hstr
  obtain ⟨U, hsteps, hrun, hend, hW, hsame, ce, hce, hcl0, hcv⟩ := xn_ctor X₁ hexec htr hown' h hfX hkX hcellA (by rw [hhp, hT]; exact Nat.le_refl _) (sa := sa)
    (g := { method := m, pc := pc + 6, locals := ls, stack := .ref sa :: .ref T.heap.size :: .ref T.heap.size :: rest, locked := none }) rfl hsize rfl rfl (rest := rest) rfl
    (by rw [hb]; exact d6) (by rw [hb]; exact d9) hout hRframes (by simp only [List.map_cons, List.sum_cons, hcat]; omega) hlocks
  obtain ⟨f1, f2⟩ := vx_frame hsame
  rw [hhp] at f1 f2
  have hWs : s.WarmedH U.vm := State.WarmedH.trans hW0 hW
  have hcl : s.vm.findClass xNSE = some ce.cls := by
    rw [hvm] at hcl0
    exact hcl0
  have hall : s.sameButNew ({ U with vm := s.vm } : State) locs mc ms := by
    subst hA
    obtain ⟨e1, e2⟩ := hsame
    rw [State.setFrames_setFrames] at e1
    have h2 : (T.setVm s.vm).sameButNew ({ U with vm := s.vm } : State) [] (0 + 1) (0 + 6) := ⟨e1, e2⟩
    have h3 := X.same.trans h2
    rw [List.append_nil] at h3
    exact h3.mono hc hs
  refine ⟨U, ?_, .threw T.heap.size, hrun, hend, Or.inr ⟨T.heap.size, rfl, xNSE, ce, locs, hx U hWs.alike f1 (fun q hq => f2 q hq (fun z hz => nomatch hz)), hce, hcv, hcl, hWs, hall, hf⟩⟩
  refine st1 _ ?_
  show Steps p.tables e below (T1.setTop { method := m, pc := pc + 3, locals := ls, stack := .ref T.heap.size :: rest, locked := none }) _
  jvm_step X₁.here [X₁.here.top, hexec, d3', Value.category]
  exact X₁.ldcString hexec (own := RX2) (text := text) (index := is) (a := sa) hown' hstr'.1 hstr'.2
    (g := { method := m, pc := pc + 4, locals := ls, stack := .ref T.heap.size :: .ref T.heap.size :: rest, locked := none }) rfl d4' _ hsteps
variable {dC : Nat → ClassId} {dI : Nat → Nat → Nat} {ws ws' ws0 : va_W} {pc : Nat} {L : List Nat} {ex : Option String} {rr : Option Value}
theorem k_throwN {cc : ByteArray} (hexec : p.tables.exec = Jvm.exec) (hb : c.code = cc) (hl : l.stackTraces = false) {text : String} {names : List String} {is : Nat}
    (hown : s.vm.findClass RX2 = some m.cls) (_ : Bundle.fit xNSE = true) (_ : ∀ n ∈ names, Bundle.fit n = true)
    (hk : (Cond.classLink RX2 134 xNSE).before args s = true) (hini : (Cond.initialized xNSE).before args s = true) (hat : ∀ w ∈ xnW, w.before args s = true)
    (_ : ∀ w ∈ Cond.classLink RX2 134 xNSE :: Cond.initialized xNSE :: xnW, vx_ot w = true)
    (hT : gT s) (hstr : (is, text) ∈ gStr) (hZ : gZ L s s.heap) (hP : va_P (dC, dI) vwCl ws H) (hS : va_S (mA L) s.heap H locs) (hsize : ls.size = c.maxLocals)
    (d0 : decode cc pc = .ok (.new 134, 3)) (d3 : decode cc (pc + 3) = .ok (.dup, 1)) (d4 : decode cc (pc + 4) = .ok (.ldc is, 2)) (d6 : decode cc (pc + 6) = .ok (.invokespecial 138, 3)) (d9 : decode cc (pc + 9) = .ok (.athrow, 1))
    (hno : ∀ x ∈ c.exceptionTable.toList, False)
    (hRframes : 5 < R.frames) (hRlocals : (rest.map fun v => v.category).sum + 82 ≤ R.locals) (hRcells : cells + 1 ≤ R.cells) (hRslots : slots + 6 ≤ R.slots) (hlocks : meth.locks = false)
    (hex : ex = some xNSE) (hw : ws = ws0) (hc : cells + 1 ≤ mc) (hs : slots + 6 ≤ ms) :
    W p l e R s m args below meth c H locs cells slots (vx_MQ below (tQ dC dI ex ws' L rr) (tX dC dI ex ws0 L) args s mc ms (mA L)) (F0 m pc ls rest) := by
  subst hw
  obtain ⟨sa, hsa⟩ := hT.2 _ hstr
  refine xn_throw (A := mA L) (sa := sa) hexec hb hl hown hk hini hsa hat hZ.1 hZ.2 hS hsize d0 d3 d4 d6 d9 (fun x hx => (hno x hx).elim) hRframes hRlocals hRcells hRslots hlocks (fun t ht h1 h2 => ⟨hex, hP.kept (fun k q hq => h2 q.1 (hP k q hq).lt), Nat.le_trans hS.1 h1, fun q g1 g2 => ?_⟩) hS.2.2 hc hs
  rw [h2 q (Nat.lt_of_lt_of_le g1 hS.1)]
  exact hS.2.1 q g1 g2
end XN2
def wnX2_byteOfRow : List Cond := .code yX2_byteOfRow cX2_byteOfRow 3 (some .int) :: ([.classLink RX2 134 "java/util/NoSuchElementException", .initialized "java/util/NoSuchElementException", .fieldLink RX2 40 "StockLog" "rows" "LStockLog$Rows;", .methodLink RX2 145 yX1_lengthOf, .instanceMethod yX1_lengthOf, .selects RX1 yX1_lengthOf yX1_lengthOf, .initialized RX1, .code yX1_lengthOf cX1_lengthOf 2 (some .int), .fieldLink RX1 14 "StockLog$Rows" "image" "LStockLog$Cells;", .fieldLink RX1 20 "StockLog$Rows" "starts" "LStockLog$Cells;", .methodLink RX1 33 yX0_at, .instanceMethod yX0_at, .selects RX0 yX0_at yX0_at, .initialized RX0, .code yX0_at cX0_at 2 (some .int), .fieldLink RX0 15 "StockLog$Cells" "cells" "[I", .methodLink RX2 191 yX1_byteAt, .instanceMethod yX1_byteAt, .selects RX1 yX1_byteAt yX1_byteAt, .code yX1_byteAt cX1_byteAt 3 (some .int)] ++ wsX20 ++ wsX10 ++ wsX00 ++ xnW.filter goodWord)
def wnX2_row : List Cond := .code yX2_row cX2_row 3 (some .int) :: ((wsX2_row_r1 ++ wsX2_row_r2) ++ wsX20 ++ wsX10 ++ wsX00 ++ xnW.filter goodWord ++ (vx_atS RX2 55 "java/lang/IllegalArgumentException" ["java/lang/RuntimeException", "java/lang/Exception"]).filter goodWord)
def wnL_row : List Cond := .codeWith yL_row cL_row 5 (some .int) [(0, 10, 13, 46), (0, 10, 17, 13)] :: ((wsL_row_r1 ++ wsL_row_r2) ++ wsX20 ++ wsX10 ++ wsX00 ++ xnW.filter goodWord ++ (vx_atS RX2 55 "java/lang/IllegalArgumentException" ["java/lang/RuntimeException", "java/lang/Exception"]).filter goodWord)
set_option maxRecDepth 20000 in
theorem ggnX2_row_X1_has : GoodIn wnX2_row wsX1_has := goodIn_r _ [10, 11, 46, 47, 48, 49, 50, 51, 52, 53] (by decide +kernel) (by decide +kernel)
set_option maxRecDepth 20000 in
theorem gnX2_row_X1_has : GoodIn wnX2_row (wsV RX2 130 RX1 yX1_has wsX1_has) := goodIn_app (goodIn_of _ (by decide +kernel)) ggnX2_row_X1_has
set_option maxRecDepth 20000 in
theorem ggnX2_row_X2_byteOfRow : GoodIn wnX2_row wnX2_byteOfRow := goodIn_ca (goodIn_r _ [16, 1, 2, 5, 17, 18, 19, 9, 20, 21, 22, 23, 24, 25, 26, 27, 28, 29, 30, 31, 32, 37, 38, 39, 40, 41, 42, 43, 44, 45, 46, 47, 48, 49, 50, 51, 52, 53, 54] (by decide +kernel) (by decide +kernel)) (goodIn_sub (fun _ h => List.mem_cons_of_mem _ (List.mem_append_left _ (List.mem_append_right _ h))) (by decide +kernel))
set_option maxRecDepth 20000 in
theorem gnX2_row_X2_byteOfRow : GoodIn wnX2_row (wsV RX2 139 RX2 yX2_byteOfRow wnX2_byteOfRow) := goodIn_app (goodIn_of _ (by decide +kernel)) ggnX2_row_X2_byteOfRow
set_option maxRecDepth 20000 in
theorem ggnX2_row_X1_kindOf : GoodIn wnX2_row wsX1_kindOf := goodIn_r _ [36, 21, 22, 23, 24, 25, 26, 27, 28, 46, 47, 48, 49, 50, 51, 52, 53, 54] (by decide +kernel) (by decide +kernel)
set_option maxRecDepth 20000 in
theorem gnX2_row_X1_kindOf : GoodIn wnX2_row (wsV RX2 142 RX1 yX1_kindOf wsX1_kindOf) := goodIn_app (goodIn_of _ (by decide +kernel)) ggnX2_row_X1_kindOf
set_option maxRecDepth 20000 in
theorem ggnX2_row_X1_lengthOf : GoodIn wnX2_row wsX1_lengthOf := goodIn_r _ [20, 21, 22, 23, 24, 25, 26, 27, 28, 46, 47, 48, 49, 50, 51, 52, 53, 54] (by decide +kernel) (by decide +kernel)
set_option maxRecDepth 20000 in
theorem gnX2_row_X1_lengthOf : GoodIn wnX2_row (wsV RX2 145 RX1 yX1_lengthOf wsX1_lengthOf) := goodIn_app (goodIn_of _ (by decide +kernel)) ggnX2_row_X1_lengthOf
set_option maxRecDepth 20000 in
theorem ggnX2_byteOfRow_X1_lengthOf : GoodIn wnX2_byteOfRow wsX1_lengthOf := goodIn_r _ [8, 9, 10, 11, 12, 13, 14, 15, 16, 30, 31, 32, 33, 34, 35, 36, 37, 38] (by decide +kernel) (by decide +kernel)
set_option maxRecDepth 20000 in
theorem gnX2_byteOfRow_X1_lengthOf : GoodIn wnX2_byteOfRow (wsV RX2 145 RX1 yX1_lengthOf wsX1_lengthOf) := goodIn_app (goodIn_of _ (by decide +kernel)) ggnX2_byteOfRow_X1_lengthOf
set_option maxRecDepth 20000 in
theorem ggnX2_byteOfRow_X1_byteAt : GoodIn wnX2_byteOfRow wsX1_byteAt := goodIn_r _ [20, 9, 10, 11, 12, 13, 14, 15, 16, 30, 31, 32, 33, 34, 35, 36, 37, 38] (by decide +kernel) (by decide +kernel)
set_option maxRecDepth 20000 in
theorem gnX2_byteOfRow_X1_byteAt : GoodIn wnX2_byteOfRow (wsV RX2 191 RX1 yX1_byteAt wsX1_byteAt) := goodIn_app (goodIn_of _ (by decide +kernel)) ggnX2_byteOfRow_X1_byteAt
set_option maxRecDepth 20000 in
theorem ggnL_row_X2_row : GoodIn wnL_row wnX2_row := goodIn_ca (goodIn_ca (goodIn_r _ [7, 8, 9, 10, 11, 12, 13, 14, 15, 16, 17, 18, 19, 20, 21, 6, 22, 23, 24, 25, 26, 27, 28, 29, 30, 31, 32, 33, 34, 35, 36, 37, 38, 39, 40, 41, 42, 43, 44, 45, 46, 47, 48, 49, 50, 51, 52, 53, 54, 55, 56, 57, 58, 59, 60] (by decide +kernel) (by decide +kernel)) (goodIn_sub (fun _ h => List.mem_cons_of_mem _ (List.mem_append_left _ (List.mem_append_right _ h))) (by decide +kernel))) (goodIn_sub (fun _ h => List.mem_cons_of_mem _ (List.mem_append_right _ h)) (by decide +kernel))
set_option maxRecDepth 20000 in
theorem gnL_row_X2_row : GoodIn wnL_row (wsV RL 43 RX2 yX2_row wnX2_row) := goodIn_app (goodIn_of _ (by decide +kernel)) ggnL_row_X2_row
set_option maxHeartbeats 4000000 in
set_option maxRecDepth 100000 in
theorem mn_X2_byteOfRow (l : Launch) (dC : Nat → ClassId) (dI : Nat → Nat → Nat) (cI cJ : ClassId) (o : Nat) (qd : Nat) (qe : Nat) (qo : Nat) (r : Nat) (qi : Nat) (ai : Nat) (qs : Nat) (aS : Nat) (qk : Nat) (ak : Nat) (qt : Nat) (aT : Nat) (N : Nat) (K : Nat) (fi : Nat → Int32) (fs : Nat → Int32) (fk : Nat → Int32) (ft : Nat → Int32) (se : Int32) (tc : Int32) (fb : Int32) (up : Int32) (bk : Int32) (last : Int32) (used : Int32) (lod : Int32) (uod : Int32) (number : Int32) (i : Int32) (hN : N < 2 ^ 31) (hK9 : K < 2 ^ 31) (hst : l.stackTraces = false) : cT l yX2_byteOfRow wnX2_byteOfRow ({ frames := 6, cells := 1, slots := 6, locals := 82 }) dC dI cI cJ [(o, .inr (3, [.int se, .ref qd, .ref qe, .ref qo, .ref r, .int tc, .int fb, .int up, .int bk])), (r, .inr (2, [.ref qi, .ref qs, .ref qk, .ref qt, .int last, .int used, .int lod, .int uod])), (qi, .inr (1, [.ref ai])), (ai, .inl (cI, N, .inl fi)), (qs, .inr (1, [.ref aS])), (aS, .inl (cI, K, .inl fs)), (qk, .inr (1, [.ref ak])), (ak, .inl (cI, 6, .inl fk)), (qt, .inr (1, [.ref aT])), (aT, .inl (cI, 8, .inl ft))] [(o, .inr (3, [.int se, .ref qd, .ref qe, .ref qo, .ref r, .int tc, .int fb, .int up, .int bk])), (r, .inr (2, [.ref qi, .ref qs, .ref qk, .ref qt, .int last, .int used, .int lod, .int uod])), (qi, .inr (1, [.ref ai])), (ai, .inl (cI, N, .inl fi)), (qs, .inr (1, [.ref aS])), (aS, .inl (cI, K, .inl fs)), (qk, .inr (1, [.ref ak])), (ak, .inl (cI, 6, .inl fk)), (qt, .inr (1, [.ref aT])), (aT, .inl (cI, 8, .inl ft))] [o, r, qi, ai, qs, aS, qk, ak, qt, aT] [.ref o, .int number, .int i] (exByte N K fi fs number i) (some (.int (rw_byteAt N K fi fs number i))) 1 6 := by
  refine vx_ofW (cc := cX2_byteOfRow) (maxL := 3) (ret := (some .int)) (by decide) rfl ?_
  intro p e s m args below meth c s₁ B hml hno hv
  obtain ⟨rfl, hP, hK, hD0, hT, hZ⟩ := hv
  have hx := B.exec
  have hb := B.bytes
  have hr := B.returns
  have hts := atoms_spec (ws := wnX2_byteOfRow) B.pre
  have hown : s.vm.findClass RX2 = some m.cls := findClass_of_methodNamed B.named
  have hlocks := B.notSynchronized
  have inX2 : ∀ w ∈ wsX20, w ∈ wnX2_byteOfRow := fun w h => (List.mem_cons_of_mem _ (List.mem_append_left _ (List.mem_append_left _ (List.mem_append_left _ (List.mem_append_right _ h)))))
  have xkNSE := hts (.classLink RX2 134 xNSE) (by decide +kernel)
  have xiNSE := hts (.initialized xNSE) (by decide +kernel)
  have xhNSE := vx_hat (fun w h => hts w (List.mem_cons_of_mem _ (List.mem_append_right _ h))) xbN (fun w h => va_Nw.use (gXW_on w h) (hT.1 w h))
  have fl40 := hts (.fieldLink RX2 40 "StockLog" "rows" "LStockLog$Rows;") (by decide +kernel)
  have hD : va_D (mA [o, r, qi, ai, qs, aS, qk, ak, qt, aT]) [(o, .inr (3, [.int se, .ref qd, .ref qe, .ref qo, .ref r, .int tc, .int fb, .int up, .int bk])), (r, .inr (2, [.ref qi, .ref qs, .ref qk, .ref qt, .int last, .int used, .int lod, .int uod])), (qi, .inr (1, [.ref ai])), (ai, .inl (cI, N, .inl fi)), (qs, .inr (1, [.ref aS])), (aS, .inl (cI, K, .inl fs)), (qk, .inr (1, [.ref ak])), (ak, .inl (cI, 6, .inl fk)), (qt, .inr (1, [.ref aT])), (aT, .inl (cI, 8, .inl ft))] := k_Dw hD0 rfl
  have hS : va_S (mA [o, r, qi, ai, qs, aS, qk, ak, qt, aT]) s.heap s.heap [] := va_S.rf
  have hl := lv_entry ([.ref o, .int number, .int i]) (n := 3) (Nat.le_of_ble_eq_true rfl)
  rw [lg_entry_eq]
  generalize (lg_sl ([.ref o, .int number, .int i]) ++ List.replicate (3 - (lg_sl ([.ref o, .int number, .int i])).length) Slot.unset).toArray = ls at hl ⊢
  have hl : lv_has ls 3 [(0, .ref o), (1, .int number), (2, .int i)] := hl
  refine lv_iload_n hx hb dX2_byteOfRow_0 rfl (lv_at hl 2 rfl) ?_
  refine lv_aload_n hx hb dX2_byteOfRow_1 rfl (lv_at hl 0 rfl) ?_
  refine k_get (ci := 3) (T := TX2) (N := 9) (C := RX2) hx hb hts inX2 hown hK hP 0 rfl rfl 4 (by decide) fl40 rfl rfl dX2_byteOfRow_2 ?_
  refine lv_iload_n hx hb dX2_byteOfRow_5 rfl (lv_at hl 1 rfl) ?_
  refine k_afP (va_runV (rest := [.int i]) ⟨hx, hb, hml, hown, hts⟩ (m_X1_lengthOf l dC dI cI cJ r qi ai qs aS qk ak qt aT N K fi fs fk ft last used lod uod number (by first | assumption | decide) (by first | assumption | decide)) (cwV 1 hts gnX2_byteOfRow_X1_lengthOf rfl rfl rfl hdv_X1_lengthOf ⟨Nat.le_of_ble_eq_true rfl, Nat.le_of_ble_eq_true rfl⟩) (k_preVP hK hP [1, 2, 3, 4, 5, 6, 7, 8, 9] rfl 1 rfl rfl) rfl rfl hl.1 rfl (lv_room (Nat.le_of_ble_eq_true rfl)) dX2_byteOfRow_6 ⟨Nat.le_of_ble_eq_true rfl, Nat.le_of_ble_eq_true rfl⟩) ?_
  refine lv_icmp_lt (tgt := 22) hx hb dX2_byteOfRow_9 (by decide) (fun c1 => ?_) (fun c1 => ?_)
  · refine lv_aload_n hx hb dX2_byteOfRow_22 rfl (lv_at hl 0 rfl) ?_
    refine k_get (ci := 3) (T := TX2) (N := 9) (C := RX2) hx hb hts inX2 hown hK hP 0 rfl rfl 4 (by decide) fl40 rfl rfl dX2_byteOfRow_23 ?_
    refine lv_iload_n hx hb dX2_byteOfRow_26 rfl (lv_at hl 1 rfl) ?_
    refine lv_iload_n hx hb dX2_byteOfRow_27 rfl (lv_at hl 2 rfl) ?_
    refine k_afP (va_runV (rest := []) ⟨hx, hb, hml, hown, hts⟩ (m_X1_byteAt l dC dI cI cJ r qi ai qs aS qk ak qt aT N K fi fs fk ft last used lod uod number i (by first | assumption | decide) (by first | assumption | decide)) (cwV 2 hts gnX2_byteOfRow_X1_byteAt rfl rfl rfl hdv_X1_byteAt ⟨Nat.le_of_ble_eq_true rfl, Nat.le_of_ble_eq_true rfl⟩) (k_preVP hK hP [1, 2, 3, 4, 5, 6, 7, 8, 9] rfl 1 rfl rfl) rfl rfl hl.1 rfl (lv_room (Nat.le_of_ble_eq_true rfl)) dX2_byteOfRow_28 ⟨Nat.le_of_ble_eq_true rfl, Nat.le_of_ble_eq_true rfl⟩) ?_
    exact k_iretT hx hb hr hlocks hP hS (by simp only [exByte, if_pos c1]) rfl rfl (Nat.le_of_ble_eq_true rfl) (Nat.le_of_ble_eq_true rfl) dX2_byteOfRow_31
  · exact k_throwN (text := "no such byte of the row") (names := xNNSE) hx hb hst hown (by decide +kernel) (by decide +kernel) xkNSE xiNSE xhNSE xgN hT (by decide +kernel) hZ hP hS (hl.1.trans hml.symm) dX2_byteOfRow_12 dX2_byteOfRow_15 dX2_byteOfRow_16 dX2_byteOfRow_18 dX2_byteOfRow_21 hno (Nat.le_of_ble_eq_true rfl) (Nat.le_of_ble_eq_true rfl) (Nat.le_of_ble_eq_true rfl) (Nat.le_of_ble_eq_true rfl) hlocks (by simp only [exByte, if_neg c1]) rfl (Nat.le_of_ble_eq_true rfl) (Nat.le_of_ble_eq_true rfl)
set_option maxHeartbeats 4000000 in
set_option maxRecDepth 100000 in
theorem mn_X2_row (l : Launch) (dC : Nat → ClassId) (dI : Nat → Nat → Nat) (cI cJ : ClassId) (o : Nat) (qd : Nat) (ad : Nat) (qe : Nat) (ae : Nat) (qo : Nat) (ao : Nat) (r : Nat) (qi : Nat) (ai : Nat) (qs : Nat) (aS : Nat) (qk : Nat) (ak : Nat) (qt : Nat) (aT : Nat) (N : Nat) (K : Nat) (fd : Nat → Int32) (fe : Nat → Int32) (fo : Nat → Int32) (fi : Nat → Int32) (fs : Nat → Int32) (fk : Nat → Int32) (ft : Nat → Int32) (se : Int32) (tc : Int32) (fb : Int32) (up : Int32) (bk : Int32) (last : Int32) (used : Int32) (lod : Int32) (uod : Int32) (number : Int32) (what : Int32) (hN : N < 2 ^ 31) (hK9 : K < 2 ^ 31) (hst : l.stackTraces = false) : cT l yX2_row wnX2_row ({ frames := 7, cells := 1, slots := 6, locals := 104 }) dC dI cI cJ [(o, .inr (3, [.int se, .ref qd, .ref qe, .ref qo, .ref r, .int tc, .int fb, .int up, .int bk])), (qd, .inr (1, [.ref ad])), (ad, .inl (cI, N, .inl fd)), (qe, .inr (1, [.ref ae])), (ae, .inl (cI, N, .inl fe)), (qo, .inr (1, [.ref ao])), (ao, .inl (cI, 20, .inl fo)), (r, .inr (2, [.ref qi, .ref qs, .ref qk, .ref qt, .int last, .int used, .int lod, .int uod])), (qi, .inr (1, [.ref ai])), (ai, .inl (cI, N, .inl fi)), (qs, .inr (1, [.ref aS])), (aS, .inl (cI, K, .inl fs)), (qk, .inr (1, [.ref ak])), (ak, .inl (cI, 6, .inl fk)), (qt, .inr (1, [.ref aT])), (aT, .inl (cI, 8, .inl ft))] [(o, .inr (3, [.int se, .ref qd, .ref qe, .ref qo, .ref r, .int tc, .int fb, .int up, .int bk])), (qd, .inr (1, [.ref ad])), (ad, .inl (cI, N, .inl fd)), (qe, .inr (1, [.ref ae])), (ae, .inl (cI, N, .inl fe)), (qo, .inr (1, [.ref ao])), (ao, .inl (cI, 20, .inl fo)), (r, .inr (2, [.ref qi, .ref qs, .ref qk, .ref qt, .int last, .int used, .int lod, .int uod])), (qi, .inr (1, [.ref ai])), (ai, .inl (cI, N, .inl fi)), (qs, .inr (1, [.ref aS])), (aS, .inl (cI, K, .inl fs)), (qk, .inr (1, [.ref ak])), (ak, .inl (cI, 6, .inl fk)), (qt, .inr (1, [.ref aT])), (aT, .inl (cI, 8, .inl ft))] [o, qd, ad, qe, ae, qo, ao, r, qi, ai, qs, aS, qk, ak, qt, aT] [.ref o, .int number, .int what] (exRow N K fi fs last number what) (some (.int (sl_row N K fi fs lod number what))) 1 6 := by
  refine vx_ofW (cc := cX2_row) (maxL := 3) (ret := (some .int)) (by decide) rfl ?_
  intro p e s m args below meth c s₁ B hml hno hv
  obtain ⟨rfl, hP, hK, hD0, hT, hZ⟩ := hv
  have hx := B.exec
  have hb := B.bytes
  have hr := B.returns
  have hts := atoms_spec (ws := wnX2_row) B.pre
  have hown : s.vm.findClass RX2 = some m.cls := findClass_of_methodNamed B.named
  have hlocks := B.notSynchronized
  have inX1 : ∀ w ∈ wsX10, w ∈ wnX2_row := fun w h => (List.mem_cons_of_mem _ (List.mem_append_left _ (List.mem_append_left _ (List.mem_append_left _ (List.mem_append_right _ h)))))
  have inX2 : ∀ w ∈ wsX20, w ∈ wnX2_row := fun w h => (List.mem_cons_of_mem _ (List.mem_append_left _ (List.mem_append_left _ (List.mem_append_left _ (List.mem_append_left _ (List.mem_append_right _ h))))))
  have xkIAE := hts (.classLink RX2 51 xIAE) (by decide +kernel)
  have xiIAE := hts (.initialized xIAE) (by decide +kernel)
  have xhIAE := vx_hat (fun w h => hts w (List.mem_cons_of_mem _ (List.mem_append_right _ h))) xbIAE (fun w h => va_Nw.use (gXW_on w h) (hT.1 w h))
  have xkNSE := hts (.classLink RX2 134 xNSE) (by decide +kernel)
  have xiNSE := hts (.initialized xNSE) (by decide +kernel)
  have xhNSE := vx_hat (fun w h => hts w (List.mem_cons_of_mem _ (List.mem_append_left _ (List.mem_append_right _ h)))) xbN (fun w h => va_Nw.use (gXW_on w h) (hT.1 w h))
  have fl40 := hts (.fieldLink RX2 40 "StockLog" "rows" "LStockLog$Rows;") (by decide +kernel)
  have hD : va_D (mA [o, qd, ad, qe, ae, qo, ao, r, qi, ai, qs, aS, qk, ak, qt, aT]) [(o, .inr (3, [.int se, .ref qd, .ref qe, .ref qo, .ref r, .int tc, .int fb, .int up, .int bk])), (qd, .inr (1, [.ref ad])), (ad, .inl (cI, N, .inl fd)), (qe, .inr (1, [.ref ae])), (ae, .inl (cI, N, .inl fe)), (qo, .inr (1, [.ref ao])), (ao, .inl (cI, 20, .inl fo)), (r, .inr (2, [.ref qi, .ref qs, .ref qk, .ref qt, .int last, .int used, .int lod, .int uod])), (qi, .inr (1, [.ref ai])), (ai, .inl (cI, N, .inl fi)), (qs, .inr (1, [.ref aS])), (aS, .inl (cI, K, .inl fs)), (qk, .inr (1, [.ref ak])), (ak, .inl (cI, 6, .inl fk)), (qt, .inr (1, [.ref aT])), (aT, .inl (cI, 8, .inl ft))] := k_Dw hD0 rfl
  have hS : va_S (mA [o, qd, ad, qe, ae, qo, ao, r, qi, ai, qs, aS, qk, ak, qt, aT]) s.heap s.heap [] := va_S.rf
  have hl := lv_entry ([.ref o, .int number, .int what]) (n := 3) (Nat.le_of_ble_eq_true rfl)
  rw [lg_entry_eq]
  generalize (lg_sl ([.ref o, .int number, .int what]) ++ List.replicate (3 - (lg_sl ([.ref o, .int number, .int what])).length) Slot.unset).toArray = ls at hl ⊢
  have hl : lv_has ls 3 [(0, .ref o), (1, .int number), (2, .int what)] := hl
  refine lv_aload_n hx hb dX2_row_0 rfl (lv_at hl 0 rfl) ?_
  refine k_get (ci := 3) (T := TX2) (N := 9) (C := RX2) hx hb hts inX2 hown hK hP 0 rfl rfl 4 (by decide) fl40 rfl rfl dX2_row_1 ?_
  refine lv_iload_n hx hb dX2_row_4 rfl (lv_at hl 1 rfl) ?_
  refine k_afP (va_runV (rest := []) ⟨hx, hb, hml, hown, hts⟩ (m_X1_has l dC dI cI cJ r qi ai qs aS qk ak qt aT N K fi fs fk ft last used lod uod number ) (cwV 1 hts gnX2_row_X1_has rfl rfl rfl hdv_X1_has ⟨Nat.le_of_ble_eq_true rfl, Nat.le_of_ble_eq_true rfl⟩) (k_preVP hK hP [7, 8, 9, 10, 11, 12, 13, 14, 15] rfl 7 rfl rfl) rfl rfl hl.1 rfl (lv_room (Nat.le_of_ble_eq_true rfl)) dX2_row_5 ⟨Nat.le_of_ble_eq_true rfl, Nat.le_of_ble_eq_true rfl⟩) ?_
  refine lv_if_ne (tgt := 21) hx hb dX2_row_8 (by decide) (fun c1 => ?_) (fun c1 => ?_)
  · refine lv_iload_n hx hb dX2_row_21 rfl (lv_at hl 2 rfl) ?_
    refine lv_bipush (v := 10) hx hb dX2_row_22 (by decide) ?_
    refine lv_icmp_lt (tgt := 37) hx hb dX2_row_24 (by decide) (fun c2 => ?_) (fun c2 => ?_)
    · refine lv_iload_n hx hb dX2_row_37 rfl (lv_at hl 2 rfl) ?_
      by_cases c3 : what = 0
      · refine lv_tableIn (off := 26) (tgt := 64) hx hb dX2_row_38 (by rw [c3]; decide) (by rw [c3]; decide) (by rw [c3]; rfl) (by decide) ?_
        refine lv_aload_n hx hb dX2_row_64 rfl (lv_at hl 0 rfl) ?_
        refine k_get (ci := 3) (T := TX2) (N := 9) (C := RX2) hx hb hts inX2 hown hK hP 0 rfl rfl 4 (by decide) fl40 rfl rfl dX2_row_65 ?_
        refine lv_iload_n hx hb dX2_row_68 rfl (lv_at hl 1 rfl) ?_
        refine k_afP (va_runV (rest := []) ⟨hx, hb, hml, hown, hts⟩ (m_X1_kindOf l dC dI cI cJ r qi ai qs aS qk ak qt aT N K fi fs fk ft last used lod uod number (by first | assumption | decide) (by first | assumption | decide)) (cwV 1 hts gnX2_row_X1_kindOf rfl rfl rfl hdv_X1_kindOf ⟨Nat.le_of_ble_eq_true rfl, Nat.le_of_ble_eq_true rfl⟩) (k_preVP hK hP [7, 8, 9, 10, 11, 12, 13, 14, 15] rfl 7 rfl rfl) rfl rfl hl.1 rfl (lv_room (Nat.le_of_ble_eq_true rfl)) dX2_row_69 ⟨Nat.le_of_ble_eq_true rfl, Nat.le_of_ble_eq_true rfl⟩) ?_
        exact k_iretT hx hb hr hlocks hP hS (by simp only [exRow, if_neg c1, if_pos c2, if_pos c3]) (by simp only [sl_row, if_neg c1, if_pos c2, if_pos c3]) rfl (Nat.le_of_ble_eq_true rfl) (Nat.le_of_ble_eq_true rfl) dX2_row_72
      by_cases c4 : what = 1
      · refine lv_tableIn (off := 35) (tgt := 73) hx hb dX2_row_38 (by rw [c4]; decide) (by rw [c4]; decide) (by rw [c4]; rfl) (by decide) ?_
        refine lv_aload_n hx hb dX2_row_73 rfl (lv_at hl 0 rfl) ?_
        refine k_get (ci := 3) (T := TX2) (N := 9) (C := RX2) hx hb hts inX2 hown hK hP 0 rfl rfl 4 (by decide) fl40 rfl rfl dX2_row_74 ?_
        refine lv_iload_n hx hb dX2_row_77 rfl (lv_at hl 1 rfl) ?_
        refine k_afP (va_runV (rest := []) ⟨hx, hb, hml, hown, hts⟩ (m_X1_lengthOf l dC dI cI cJ r qi ai qs aS qk ak qt aT N K fi fs fk ft last used lod uod number (by first | assumption | decide) (by first | assumption | decide)) (cwV 1 hts gnX2_row_X1_lengthOf rfl rfl rfl hdv_X1_lengthOf ⟨Nat.le_of_ble_eq_true rfl, Nat.le_of_ble_eq_true rfl⟩) (k_preVP hK hP [7, 8, 9, 10, 11, 12, 13, 14, 15] rfl 7 rfl rfl) rfl rfl hl.1 rfl (lv_room (Nat.le_of_ble_eq_true rfl)) dX2_row_78 ⟨Nat.le_of_ble_eq_true rfl, Nat.le_of_ble_eq_true rfl⟩) ?_
        exact k_iretT hx hb hr hlocks hP hS (by simp only [exRow, if_neg c1, if_pos c2, if_neg c3, if_pos c4]) (by simp only [sl_row, if_neg c1, if_pos c2, if_neg c3, if_pos c4]) rfl (Nat.le_of_ble_eq_true rfl) (Nat.le_of_ble_eq_true rfl) dX2_row_81
      by_cases c5 : what = 2
      · refine lv_tableIn (off := 44) (tgt := 82) hx hb dX2_row_38 (by rw [c5]; decide) (by rw [c5]; decide) (by rw [c5]; rfl) (by decide) ?_
        refine lv_iload_n hx hb dX2_row_82 rfl (lv_at hl 1 rfl) ?_
        refine lv_aload_n hx hb dX2_row_83 rfl (lv_at hl 0 rfl) ?_
        refine k_get (ci := 3) (T := TX2) (N := 9) (C := RX2) hx hb hts inX2 hown hK hP 0 rfl rfl 4 (by decide) fl40 rfl rfl dX2_row_84 ?_
        refine k_getN (host := "StockLog") (ci := 2) (T := TX1) (N := 8) (C := RX1) hx hb hts inX1 hown hK hP 7 rfl rfl 6 (by decide) (by decide +kernel) rfl rfl dX2_row_87 ?_
        refine lv_icmp_gt (tgt := 97) hx hb dX2_row_90 (by decide) (fun c6 => ?_) (fun c6 => ?_)
        · refine lv_iconst (v := 0) hx hb dX2_row_97 (by decide) ?_
          exact k_iretT hx hb hr hlocks hP hS (by simp only [exRow, if_neg c1, if_pos c2, if_neg c3, if_neg c4, if_pos c5, if_pos c6]) (by simp only [sl_row, if_neg c1, if_pos c2, if_neg c3, if_neg c4, if_pos c5, if_pos c6]) rfl (Nat.le_of_ble_eq_true rfl) (Nat.le_of_ble_eq_true rfl) dX2_row_98
        · refine lv_iconst (v := 1) hx hb dX2_row_93 (by decide) ?_
          refine lv_goto (tgt := 98) hx hb dX2_row_94 (by decide) ?_
          exact k_iretT hx hb hr hlocks hP hS (by simp only [exRow, if_neg c1, if_pos c2, if_neg c3, if_neg c4, if_pos c5, if_neg c6]) (by simp only [sl_row, if_neg c1, if_pos c2, if_neg c3, if_neg c4, if_pos c5, if_neg c6]) rfl (Nat.le_of_ble_eq_true rfl) (Nat.le_of_ble_eq_true rfl) dX2_row_98
      refine lv_tableOut (tgt := 99) hx hb dX2_row_38 (by have := lv_neT (k := 0) (a := 0) c3 rfl; have := lv_neT (k := 1) (a := 1) c4 rfl; have := lv_neT (k := 2) (a := 2) c5 rfl; omega) (by decide) ?_
      exact k_throw (text := "no such thing to ask of a row") (names := xNIAE) hx hb hst hown (by decide +kernel) (by decide +kernel) xkIAE xiIAE xhIAE xgIAE hT (by decide +kernel) hZ hP hS (hl.1.trans hml.symm) dX2_row_99 dX2_row_102 dX2_row_103 dX2_row_105 dX2_row_108 hno (Nat.le_of_ble_eq_true rfl) (Nat.le_of_ble_eq_true rfl) (Nat.le_of_ble_eq_true rfl) (Nat.le_of_ble_eq_true rfl) hlocks (by simp only [exRow, if_neg c1, if_pos c2, if_neg c3, if_neg c4, if_neg c5]) rfl (Nat.le_of_ble_eq_true rfl) (Nat.le_of_ble_eq_true rfl)
    · refine lv_aload_n hx hb dX2_row_27 rfl (lv_at hl 0 rfl) ?_
      refine lv_iload_n hx hb dX2_row_28 rfl (lv_at hl 1 rfl) ?_
      refine lv_iload_n hx hb dX2_row_29 rfl (lv_at hl 2 rfl) ?_
      refine lv_bipush (v := 10) hx hb dX2_row_30 (by decide) ?_
      refine lv_isub hx hb dX2_row_32 ?_
      refine k_afT (wc := [(o, .inr (3, [.int se, .ref qd, .ref qe, .ref qo, .ref r, .int tc, .int fb, .int up, .int bk])), (r, .inr (2, [.ref qi, .ref qs, .ref qk, .ref qt, .int last, .int used, .int lod, .int uod])), (qi, .inr (1, [.ref ai])), (ai, .inl (cI, N, .inl fi)), (qs, .inr (1, [.ref aS])), (aS, .inl (cI, K, .inl fs)), (qk, .inr (1, [.ref ak])), (ak, .inl (cI, 6, .inl fk)), (qt, .inr (1, [.ref aT])), (aT, .inl (cI, 8, .inl ft))]) (ws' := [(o, .inr (3, [.int se, .ref qd, .ref qe, .ref qo, .ref r, .int tc, .int fb, .int up, .int bk])), (qd, .inr (1, [.ref ad])), (ad, .inl (cI, N, .inl fd)), (qe, .inr (1, [.ref ae])), (ae, .inl (cI, N, .inl fe)), (qo, .inr (1, [.ref ao])), (ao, .inl (cI, 20, .inl fo)), (r, .inr (2, [.ref qi, .ref qs, .ref qk, .ref qt, .int last, .int used, .int lod, .int uod])), (qi, .inr (1, [.ref ai])), (ai, .inl (cI, N, .inl fi)), (qs, .inr (1, [.ref aS])), (aS, .inl (cI, K, .inl fs)), (qk, .inr (1, [.ref ak])), (ak, .inl (cI, 6, .inl fk)), (qt, .inr (1, [.ref aT])), (aT, .inl (cI, 8, .inl ft))]) (vx_runV (rest := []) ⟨hx, hb, hml, hown, hts⟩ (mn_X2_byteOfRow l dC dI cI cJ o qd qe qo r qi ai qs aS qk ak qt aT N K fi fs fk ft se tc fb up bk last used lod uod number (what - 10) (by first | assumption | decide) (by first | assumption | decide) hst) (cwV 2 hts gnX2_row_X2_byteOfRow rfl rfl rfl hdv_X2_byteOfRow ⟨Nat.le_of_ble_eq_true rfl, Nat.le_of_ble_eq_true rfl⟩) (k_preVT hK hP hD hS hT hZ [0, 7, 8, 9, 10, 11, 12, 13, 14, 15] rfl rfl rfl 0 rfl rfl) rfl rfl hl.1 rfl (lv_room (Nat.le_of_ble_eq_true rfl)) dX2_row_33 ⟨Nat.le_of_ble_eq_true rfl, Nat.le_of_ble_eq_true rfl⟩) hP hD hS [0, 7, 8, 9, 10, 11, 12, 13, 14, 15] rfl rfl rfl rfl (fun E ce q9 H locs x7 hP hS hce hcv hcl => ?_) (fun x7 H locs hP hD hS => ?_)
      · exact k_outT hno hlocks hce hcv hcl hP hS (by simp only [exRow, if_neg c1, if_neg c2, x7, Option.some_or]) rfl (Nat.le_of_ble_eq_true rfl) (Nat.le_of_ble_eq_true rfl)
      · exact k_iretT hx hb hr hlocks hP hS (by simp only [exRow, if_neg c1, if_neg c2, x7, Option.none_or]) (by simp only [sl_row, if_neg c1, if_neg c2]) rfl (Nat.le_of_ble_eq_true rfl) (Nat.le_of_ble_eq_true rfl) dX2_row_36
  · exact k_throwN (text := "no such row") (names := xNNSE) hx hb hst hown (by decide +kernel) (by decide +kernel) xkNSE xiNSE xhNSE xgN hT (by decide +kernel) hZ hP hS (hl.1.trans hml.symm) dX2_row_11 dX2_row_14 dX2_row_15 dX2_row_17 dX2_row_20 hno (Nat.le_of_ble_eq_true rfl) (Nat.le_of_ble_eq_true rfl) (Nat.le_of_ble_eq_true rfl) (Nat.le_of_ble_eq_true rfl) hlocks (by simp only [exRow, if_pos c1]) rfl (Nat.le_of_ble_eq_true rfl) (Nat.le_of_ble_eq_true rfl)
set_option maxHeartbeats 4000000 in
set_option maxRecDepth 100000 in
theorem hn_row_ok (l : Launch) (dC : Nat → ClassId) (dI : Nat → Nat → Nat) (cI cJ : ClassId) (o : Nat) (qd : Nat) (ad : Nat) (qe : Nat) (ae : Nat) (qo : Nat) (ao : Nat) (r : Nat) (qi : Nat) (ai : Nat) (qs : Nat) (aS : Nat) (qk : Nat) (ak : Nat) (qt : Nat) (aT : Nat) (N : Nat) (K : Nat) (fd : Nat → Int32) (fe : Nat → Int32) (fo : Nat → Int32) (fi : Nat → Int32) (fs : Nat → Int32) (fk : Nat → Int32) (ft : Nat → Int32) (se : Int32) (tc : Int32) (fb : Int32) (up : Int32) (bk : Int32) (last : Int32) (used : Int32) (lod : Int32) (uod : Int32) (number : Int32) (what : Int32) (ja : Nat) (fL : Nat → Int64) (hN : N < 2 ^ 31) (hK9 : K < 2 ^ 31) (hex : exRow N K fi fs last number what = none) (hst : l.stackTraces = false) : cH l yL_row wnL_row ({ frames := 8, cells := 1, slots := 6, locals := 126 }) dC dI cI cJ [(o, .inr (3, [.int se, .ref qd, .ref qe, .ref qo, .ref r, .int tc, .int fb, .int up, .int bk])), (qd, .inr (1, [.ref ad])), (ad, .inl (cI, N, .inl fd)), (qe, .inr (1, [.ref ae])), (ae, .inl (cI, N, .inl fe)), (qo, .inr (1, [.ref ao])), (ao, .inl (cI, 20, .inl fo)), (r, .inr (2, [.ref qi, .ref qs, .ref qk, .ref qt, .int last, .int used, .int lod, .int uod])), (qi, .inr (1, [.ref ai])), (ai, .inl (cI, N, .inl fi)), (qs, .inr (1, [.ref aS])), (aS, .inl (cI, K, .inl fs)), (qk, .inr (1, [.ref ak])), (ak, .inl (cI, 6, .inl fk)), (qt, .inr (1, [.ref aT])), (aT, .inl (cI, 8, .inl ft)), (ja, .inl (cJ, 1, .inr (.inl fL)))] [(o, .inr (3, [.int se, .ref qd, .ref qe, .ref qo, .ref r, .int tc, .int fb, .int up, .int bk])), (qd, .inr (1, [.ref ad])), (ad, .inl (cI, N, .inl fd)), (qe, .inr (1, [.ref ae])), (ae, .inl (cI, N, .inl fe)), (qo, .inr (1, [.ref ao])), (ao, .inl (cI, 20, .inl fo)), (r, .inr (2, [.ref qi, .ref qs, .ref qk, .ref qt, .int last, .int used, .int lod, .int uod])), (qi, .inr (1, [.ref ai])), (ai, .inl (cI, N, .inl fi)), (qs, .inr (1, [.ref aS])), (aS, .inl (cI, K, .inl fs)), (qk, .inr (1, [.ref ak])), (ak, .inl (cI, 6, .inl fk)), (qt, .inr (1, [.ref aT])), (aT, .inl (cI, 8, .inl ft)), (ja, .inl (cJ, 1, .inr (.inl (vp_updL fL 0 (sl_row N K fi fs lod number what).toInt64))))] [o, qd, ad, qe, ae, qo, ao, r, qi, ai, qs, aS, qk, ak, qt, aT, ja] [.ref o, .int number, .int what, .ref ja] (some (.int 0)) 1 6 := by
  refine va_MetW (cc := cL_row) (maxL := 5) (ret := (some .int)) (hh := [(0, 10, 13, 46), (0, 10, 17, 13)]) (by decide) rfl ?_
  intro p e s m args below meth c s₁ B hml hv
  obtain ⟨rfl, ⟨hP, hK, hD0, hT, hZ⟩, hN⟩ := hv
  have hx := B.exec
  have hb := B.bytes
  have hr := B.returns
  have hts := atoms_spec (ws := wnL_row) B.pre
  have hown : s.vm.findClass RL = some m.cls := findClass_of_methodNamed B.named
  have hlocks := B.notSynchronized
  have htab := vx_table (x := yL_cell) B (hts _ List.mem_cons_self)
  have hD : va_D (mA [o, qd, ad, qe, ae, qo, ao, r, qi, ai, qs, aS, qk, ak, qt, aT, ja]) [(o, .inr (3, [.int se, .ref qd, .ref qe, .ref qo, .ref r, .int tc, .int fb, .int up, .int bk])), (qd, .inr (1, [.ref ad])), (ad, .inl (cI, N, .inl fd)), (qe, .inr (1, [.ref ae])), (ae, .inl (cI, N, .inl fe)), (qo, .inr (1, [.ref ao])), (ao, .inl (cI, 20, .inl fo)), (r, .inr (2, [.ref qi, .ref qs, .ref qk, .ref qt, .int last, .int used, .int lod, .int uod])), (qi, .inr (1, [.ref ai])), (ai, .inl (cI, N, .inl fi)), (qs, .inr (1, [.ref aS])), (aS, .inl (cI, K, .inl fs)), (qk, .inr (1, [.ref ak])), (ak, .inl (cI, 6, .inl fk)), (qt, .inr (1, [.ref aT])), (aT, .inl (cI, 8, .inl ft)), (ja, .inl (cJ, 1, .inr (.inl fL)))] := k_Dw hD0 rfl
  have hS : va_S (mA [o, qd, ad, qe, ae, qo, ao, r, qi, ai, qs, aS, qk, ak, qt, aT, ja]) s.heap s.heap [] := va_S.rf
  have hl := lv_entry ([.ref o, .int number, .int what, .ref ja]) (n := 5) (Nat.le_of_ble_eq_true rfl)
  rw [lg_entry_eq]
  generalize (lg_sl ([.ref o, .int number, .int what, .ref ja]) ++ List.replicate (5 - (lg_sl ([.ref o, .int number, .int what, .ref ja])).length) Slot.unset).toArray = ls at hl ⊢
  have hl : lv_has ls 5 [(0, .ref o), (1, .int number), (2, .int what), (3, .ref ja)] := hl
  refine lv_aload_n hx hb dL_row_0 rfl (lv_at hl 3 rfl) ?_
  refine lv_iconst (v := 0) hx hb dL_row_1 (by decide) ?_
  refine lv_aload_n hx hb dL_row_2 rfl (lv_at hl 0 rfl) ?_
  refine lv_iload_n hx hb dL_row_3 rfl (lv_at hl 1 rfl) ?_
  refine lv_iload_n hx hb dL_row_4 rfl (lv_at hl 2 rfl) ?_
  refine k_afT (wc := [(o, .inr (3, [.int se, .ref qd, .ref qe, .ref qo, .ref r, .int tc, .int fb, .int up, .int bk])), (qd, .inr (1, [.ref ad])), (ad, .inl (cI, N, .inl fd)), (qe, .inr (1, [.ref ae])), (ae, .inl (cI, N, .inl fe)), (qo, .inr (1, [.ref ao])), (ao, .inl (cI, 20, .inl fo)), (r, .inr (2, [.ref qi, .ref qs, .ref qk, .ref qt, .int last, .int used, .int lod, .int uod])), (qi, .inr (1, [.ref ai])), (ai, .inl (cI, N, .inl fi)), (qs, .inr (1, [.ref aS])), (aS, .inl (cI, K, .inl fs)), (qk, .inr (1, [.ref ak])), (ak, .inl (cI, 6, .inl fk)), (qt, .inr (1, [.ref aT])), (aT, .inl (cI, 8, .inl ft))]) (ws' := [(o, .inr (3, [.int se, .ref qd, .ref qe, .ref qo, .ref r, .int tc, .int fb, .int up, .int bk])), (qd, .inr (1, [.ref ad])), (ad, .inl (cI, N, .inl fd)), (qe, .inr (1, [.ref ae])), (ae, .inl (cI, N, .inl fe)), (qo, .inr (1, [.ref ao])), (ao, .inl (cI, 20, .inl fo)), (r, .inr (2, [.ref qi, .ref qs, .ref qk, .ref qt, .int last, .int used, .int lod, .int uod])), (qi, .inr (1, [.ref ai])), (ai, .inl (cI, N, .inl fi)), (qs, .inr (1, [.ref aS])), (aS, .inl (cI, K, .inl fs)), (qk, .inr (1, [.ref ak])), (ak, .inl (cI, 6, .inl fk)), (qt, .inr (1, [.ref aT])), (aT, .inl (cI, 8, .inl ft)), (ja, .inl (cJ, 1, .inr (.inl fL)))]) (vx_runV (rest := [.int 0, .ref ja]) ⟨hx, hb, hml, hown, hts⟩ (mn_X2_row l dC dI cI cJ o qd ad qe ae qo ao r qi ai qs aS qk ak qt aT N K fd fe fo fi fs fk ft se tc fb up bk last used lod uod number what (by first | assumption | decide) (by first | assumption | decide) hst) (cwV 2 hts gnL_row_X2_row rfl rfl rfl hdv_X2_row ⟨Nat.le_of_ble_eq_true rfl, Nat.le_of_ble_eq_true rfl⟩) (k_preVT hK hP hD hS hT hZ [0, 1, 2, 3, 4, 5, 6, 7, 8, 9, 10, 11, 12, 13, 14, 15] rfl rfl rfl 0 rfl rfl) rfl rfl hl.1 rfl (lv_room (Nat.le_of_ble_eq_true rfl)) dL_row_5 ⟨Nat.le_of_ble_eq_true rfl, Nat.le_of_ble_eq_true rfl⟩) hP hD hS [0, 1, 2, 3, 4, 5, 6, 7, 8, 9, 10, 11, 12, 13, 14, 15] rfl rfl rfl rfl (fun E ce q9 H locs x1 hP hS hce hcv hcl => ?_) (fun x1 H locs hP hD hS => ?_)
  · rw [hex] at x1; cases x1
  · refine lv_i2l (v := (sl_row N K fi fs lod number what).toInt64) hx hb dL_row_8 rfl ?_
    refine k_last (ws' := [(o, .inr (3, [.int se, .ref qd, .ref qe, .ref qo, .ref r, .int tc, .int fb, .int up, .int bk])), (qd, .inr (1, [.ref ad])), (ad, .inl (cI, N, .inl fd)), (qe, .inr (1, [.ref ae])), (ae, .inl (cI, N, .inl fe)), (qo, .inr (1, [.ref ao])), (ao, .inl (cI, 20, .inl fo)), (r, .inr (2, [.ref qi, .ref qs, .ref qk, .ref qt, .int last, .int used, .int lod, .int uod])), (qi, .inr (1, [.ref ai])), (ai, .inl (cI, N, .inl fi)), (qs, .inr (1, [.ref aS])), (aS, .inl (cI, K, .inl fs)), (qk, .inr (1, [.ref ak])), (ak, .inl (cI, 6, .inl fk)), (qt, .inr (1, [.ref aT])), (aT, .inl (cI, 8, .inl ft)), (ja, .inl (cJ, 1, .inr (.inl (vp_updL fL 0 (sl_row N K fi fs lod number what).toInt64))))]) hx hb hK hP hD hS 16 rfl dL_row_9 rfl (fun H locs hP hD hS => ?_)
    refine lv_goto (tgt := 21) hx hb dL_row_10 (by decide) ?_
    refine lv_iconst (v := 0) hx hb dL_row_21 (by decide) ?_
    exact k_iretW hx hb hr hlocks hP hS rfl rfl dL_row_22
set_option maxHeartbeats 4000000 in
set_option maxRecDepth 100000 in
theorem hn_row_NSE (l : Launch) (dC : Nat → ClassId) (dI : Nat → Nat → Nat) (cI cJ : ClassId) (o : Nat) (qd : Nat) (ad : Nat) (qe : Nat) (ae : Nat) (qo : Nat) (ao : Nat) (r : Nat) (qi : Nat) (ai : Nat) (qs : Nat) (aS : Nat) (qk : Nat) (ak : Nat) (qt : Nat) (aT : Nat) (N : Nat) (K : Nat) (fd : Nat → Int32) (fe : Nat → Int32) (fo : Nat → Int32) (fi : Nat → Int32) (fs : Nat → Int32) (fk : Nat → Int32) (ft : Nat → Int32) (se : Int32) (tc : Int32) (fb : Int32) (up : Int32) (bk : Int32) (last : Int32) (used : Int32) (lod : Int32) (uod : Int32) (number : Int32) (what : Int32) (ja : Nat) (fL : Nat → Int64) (hN : N < 2 ^ 31) (hK9 : K < 2 ^ 31) (hex : exRow N K fi fs last number what = some xNSE) (hst : l.stackTraces = false) : cH l yL_row wnL_row ({ frames := 8, cells := 1, slots := 6, locals := 126 }) dC dI cI cJ [(o, .inr (3, [.int se, .ref qd, .ref qe, .ref qo, .ref r, .int tc, .int fb, .int up, .int bk])), (qd, .inr (1, [.ref ad])), (ad, .inl (cI, N, .inl fd)), (qe, .inr (1, [.ref ae])), (ae, .inl (cI, N, .inl fe)), (qo, .inr (1, [.ref ao])), (ao, .inl (cI, 20, .inl fo)), (r, .inr (2, [.ref qi, .ref qs, .ref qk, .ref qt, .int last, .int used, .int lod, .int uod])), (qi, .inr (1, [.ref ai])), (ai, .inl (cI, N, .inl fi)), (qs, .inr (1, [.ref aS])), (aS, .inl (cI, K, .inl fs)), (qk, .inr (1, [.ref ak])), (ak, .inl (cI, 6, .inl fk)), (qt, .inr (1, [.ref aT])), (aT, .inl (cI, 8, .inl ft)), (ja, .inl (cJ, 1, .inr (.inl fL)))] [(o, .inr (3, [.int se, .ref qd, .ref qe, .ref qo, .ref r, .int tc, .int fb, .int up, .int bk])), (qd, .inr (1, [.ref ad])), (ad, .inl (cI, N, .inl fd)), (qe, .inr (1, [.ref ae])), (ae, .inl (cI, N, .inl fe)), (qo, .inr (1, [.ref ao])), (ao, .inl (cI, 20, .inl fo)), (r, .inr (2, [.ref qi, .ref qs, .ref qk, .ref qt, .int last, .int used, .int lod, .int uod])), (qi, .inr (1, [.ref ai])), (ai, .inl (cI, N, .inl fi)), (qs, .inr (1, [.ref aS])), (aS, .inl (cI, K, .inl fs)), (qk, .inr (1, [.ref ak])), (ak, .inl (cI, 6, .inl fk)), (qt, .inr (1, [.ref aT])), (aT, .inl (cI, 8, .inl ft)), (ja, .inl (cJ, 1, .inr (.inl fL)))] [o, qd, ad, qe, ae, qo, ao, r, qi, ai, qs, aS, qk, ak, qt, aT, ja] [.ref o, .int number, .int what, .ref ja] (some (.int 1)) 1 6 := by
  refine va_MetW (cc := cL_row) (maxL := 5) (ret := (some .int)) (hh := [(0, 10, 13, 46), (0, 10, 17, 13)]) (by decide) rfl ?_
  intro p e s m args below meth c s₁ B hml hv
  obtain ⟨rfl, ⟨hP, hK, hD0, hT, hZ⟩, hN⟩ := hv
  have hx := B.exec
  have hb := B.bytes
  have hr := B.returns
  have hts := atoms_spec (ws := wnL_row) B.pre
  have hown : s.vm.findClass RL = some m.cls := findClass_of_methodNamed B.named
  have hlocks := B.notSynchronized
  have htab := vx_table (x := yL_cell) B (hts _ List.mem_cons_self)
  have hD : va_D (mA [o, qd, ad, qe, ae, qo, ao, r, qi, ai, qs, aS, qk, ak, qt, aT, ja]) [(o, .inr (3, [.int se, .ref qd, .ref qe, .ref qo, .ref r, .int tc, .int fb, .int up, .int bk])), (qd, .inr (1, [.ref ad])), (ad, .inl (cI, N, .inl fd)), (qe, .inr (1, [.ref ae])), (ae, .inl (cI, N, .inl fe)), (qo, .inr (1, [.ref ao])), (ao, .inl (cI, 20, .inl fo)), (r, .inr (2, [.ref qi, .ref qs, .ref qk, .ref qt, .int last, .int used, .int lod, .int uod])), (qi, .inr (1, [.ref ai])), (ai, .inl (cI, N, .inl fi)), (qs, .inr (1, [.ref aS])), (aS, .inl (cI, K, .inl fs)), (qk, .inr (1, [.ref ak])), (ak, .inl (cI, 6, .inl fk)), (qt, .inr (1, [.ref aT])), (aT, .inl (cI, 8, .inl ft)), (ja, .inl (cJ, 1, .inr (.inl fL)))] := k_Dw hD0 rfl
  have hS : va_S (mA [o, qd, ad, qe, ae, qo, ao, r, qi, ai, qs, aS, qk, ak, qt, aT, ja]) s.heap s.heap [] := va_S.rf
  have hl := lv_entry ([.ref o, .int number, .int what, .ref ja]) (n := 5) (Nat.le_of_ble_eq_true rfl)
  rw [lg_entry_eq]
  generalize (lg_sl ([.ref o, .int number, .int what, .ref ja]) ++ List.replicate (5 - (lg_sl ([.ref o, .int number, .int what, .ref ja])).length) Slot.unset).toArray = ls at hl ⊢
  have hl : lv_has ls 5 [(0, .ref o), (1, .int number), (2, .int what), (3, .ref ja)] := hl
  refine lv_aload_n hx hb dL_row_0 rfl (lv_at hl 3 rfl) ?_
  refine lv_iconst (v := 0) hx hb dL_row_1 (by decide) ?_
  refine lv_aload_n hx hb dL_row_2 rfl (lv_at hl 0 rfl) ?_
  refine lv_iload_n hx hb dL_row_3 rfl (lv_at hl 1 rfl) ?_
  refine lv_iload_n hx hb dL_row_4 rfl (lv_at hl 2 rfl) ?_
  refine k_afT (wc := [(o, .inr (3, [.int se, .ref qd, .ref qe, .ref qo, .ref r, .int tc, .int fb, .int up, .int bk])), (qd, .inr (1, [.ref ad])), (ad, .inl (cI, N, .inl fd)), (qe, .inr (1, [.ref ae])), (ae, .inl (cI, N, .inl fe)), (qo, .inr (1, [.ref ao])), (ao, .inl (cI, 20, .inl fo)), (r, .inr (2, [.ref qi, .ref qs, .ref qk, .ref qt, .int last, .int used, .int lod, .int uod])), (qi, .inr (1, [.ref ai])), (ai, .inl (cI, N, .inl fi)), (qs, .inr (1, [.ref aS])), (aS, .inl (cI, K, .inl fs)), (qk, .inr (1, [.ref ak])), (ak, .inl (cI, 6, .inl fk)), (qt, .inr (1, [.ref aT])), (aT, .inl (cI, 8, .inl ft))]) (ws' := [(o, .inr (3, [.int se, .ref qd, .ref qe, .ref qo, .ref r, .int tc, .int fb, .int up, .int bk])), (qd, .inr (1, [.ref ad])), (ad, .inl (cI, N, .inl fd)), (qe, .inr (1, [.ref ae])), (ae, .inl (cI, N, .inl fe)), (qo, .inr (1, [.ref ao])), (ao, .inl (cI, 20, .inl fo)), (r, .inr (2, [.ref qi, .ref qs, .ref qk, .ref qt, .int last, .int used, .int lod, .int uod])), (qi, .inr (1, [.ref ai])), (ai, .inl (cI, N, .inl fi)), (qs, .inr (1, [.ref aS])), (aS, .inl (cI, K, .inl fs)), (qk, .inr (1, [.ref ak])), (ak, .inl (cI, 6, .inl fk)), (qt, .inr (1, [.ref aT])), (aT, .inl (cI, 8, .inl ft)), (ja, .inl (cJ, 1, .inr (.inl fL)))]) (vx_runV (rest := [.int 0, .ref ja]) ⟨hx, hb, hml, hown, hts⟩ (mn_X2_row l dC dI cI cJ o qd ad qe ae qo ao r qi ai qs aS qk ak qt aT N K fd fe fo fi fs fk ft se tc fb up bk last used lod uod number what (by first | assumption | decide) (by first | assumption | decide) hst) (cwV 2 hts gnL_row_X2_row rfl rfl rfl hdv_X2_row ⟨Nat.le_of_ble_eq_true rfl, Nat.le_of_ble_eq_true rfl⟩) (k_preVT hK hP hD hS hT hZ [0, 1, 2, 3, 4, 5, 6, 7, 8, 9, 10, 11, 12, 13, 14, 15] rfl rfl rfl 0 rfl rfl) rfl rfl hl.1 rfl (lv_room (Nat.le_of_ble_eq_true rfl)) dL_row_5 ⟨Nat.le_of_ble_eq_true rfl, Nat.le_of_ble_eq_true rfl⟩) hP hD hS [0, 1, 2, 3, 4, 5, 6, 7, 8, 9, 10, 11, 12, 13, 14, 15] rfl rfl rfl rfl (fun E ce q9 H locs x1 hP hS hce hcv hcl => ?_) (fun x1 H locs hP hD hS => ?_)
  · obtain rfl : xNSE = E := Option.some.inj (hex.symm.trans x1)
    refine vx_catch hown [] ⟨0, 10, 13, 46⟩ [⟨0, 10, 17, 13⟩] htab (fun z hz => nomatch hz) (by decide) (by decide) (hts (.classLink RL 46 xNSE) (by decide +kernel)) (va_Nw.use rfl (hT.1 _ xcNSE)) hce hcv hcl ?_
    refine lv_astore (lv' := [(4, .ref q9), (0, .ref o), (1, .int number), (2, .int what), (3, .ref ja)]) hx hb dL_row_13 hl (by decide) rfl (fun ls hl => ?_)
    refine lv_iconst (v := 1) hx hb dL_row_15 (by decide) ?_
    exact k_iretW hx hb hr hlocks hP hS rfl rfl dL_row_16
  · rw [hex] at x1; cases x1
set_option maxHeartbeats 4000000 in
set_option maxRecDepth 100000 in
theorem hn_row_IAE (l : Launch) (dC : Nat → ClassId) (dI : Nat → Nat → Nat) (cI cJ : ClassId) (o : Nat) (qd : Nat) (ad : Nat) (qe : Nat) (ae : Nat) (qo : Nat) (ao : Nat) (r : Nat) (qi : Nat) (ai : Nat) (qs : Nat) (aS : Nat) (qk : Nat) (ak : Nat) (qt : Nat) (aT : Nat) (N : Nat) (K : Nat) (fd : Nat → Int32) (fe : Nat → Int32) (fo : Nat → Int32) (fi : Nat → Int32) (fs : Nat → Int32) (fk : Nat → Int32) (ft : Nat → Int32) (se : Int32) (tc : Int32) (fb : Int32) (up : Int32) (bk : Int32) (last : Int32) (used : Int32) (lod : Int32) (uod : Int32) (number : Int32) (what : Int32) (ja : Nat) (fL : Nat → Int64) (hN : N < 2 ^ 31) (hK9 : K < 2 ^ 31) (hex : exRow N K fi fs last number what = some xIAE) (hst : l.stackTraces = false) : cH l yL_row wnL_row ({ frames := 8, cells := 1, slots := 6, locals := 126 }) dC dI cI cJ [(o, .inr (3, [.int se, .ref qd, .ref qe, .ref qo, .ref r, .int tc, .int fb, .int up, .int bk])), (qd, .inr (1, [.ref ad])), (ad, .inl (cI, N, .inl fd)), (qe, .inr (1, [.ref ae])), (ae, .inl (cI, N, .inl fe)), (qo, .inr (1, [.ref ao])), (ao, .inl (cI, 20, .inl fo)), (r, .inr (2, [.ref qi, .ref qs, .ref qk, .ref qt, .int last, .int used, .int lod, .int uod])), (qi, .inr (1, [.ref ai])), (ai, .inl (cI, N, .inl fi)), (qs, .inr (1, [.ref aS])), (aS, .inl (cI, K, .inl fs)), (qk, .inr (1, [.ref ak])), (ak, .inl (cI, 6, .inl fk)), (qt, .inr (1, [.ref aT])), (aT, .inl (cI, 8, .inl ft)), (ja, .inl (cJ, 1, .inr (.inl fL)))] [(o, .inr (3, [.int se, .ref qd, .ref qe, .ref qo, .ref r, .int tc, .int fb, .int up, .int bk])), (qd, .inr (1, [.ref ad])), (ad, .inl (cI, N, .inl fd)), (qe, .inr (1, [.ref ae])), (ae, .inl (cI, N, .inl fe)), (qo, .inr (1, [.ref ao])), (ao, .inl (cI, 20, .inl fo)), (r, .inr (2, [.ref qi, .ref qs, .ref qk, .ref qt, .int last, .int used, .int lod, .int uod])), (qi, .inr (1, [.ref ai])), (ai, .inl (cI, N, .inl fi)), (qs, .inr (1, [.ref aS])), (aS, .inl (cI, K, .inl fs)), (qk, .inr (1, [.ref ak])), (ak, .inl (cI, 6, .inl fk)), (qt, .inr (1, [.ref aT])), (aT, .inl (cI, 8, .inl ft)), (ja, .inl (cJ, 1, .inr (.inl fL)))] [o, qd, ad, qe, ae, qo, ao, r, qi, ai, qs, aS, qk, ak, qt, aT, ja] [.ref o, .int number, .int what, .ref ja] (some (.int 2)) 1 6 := by
  refine va_MetW (cc := cL_row) (maxL := 5) (ret := (some .int)) (hh := [(0, 10, 13, 46), (0, 10, 17, 13)]) (by decide) rfl ?_
  intro p e s m args below meth c s₁ B hml hv
  obtain ⟨rfl, ⟨hP, hK, hD0, hT, hZ⟩, hN⟩ := hv
  have hx := B.exec
  have hb := B.bytes
  have hr := B.returns
  have hts := atoms_spec (ws := wnL_row) B.pre
  have hown : s.vm.findClass RL = some m.cls := findClass_of_methodNamed B.named
  have hlocks := B.notSynchronized
  have htab := vx_table (x := yL_cell) B (hts _ List.mem_cons_self)
  have hD : va_D (mA [o, qd, ad, qe, ae, qo, ao, r, qi, ai, qs, aS, qk, ak, qt, aT, ja]) [(o, .inr (3, [.int se, .ref qd, .ref qe, .ref qo, .ref r, .int tc, .int fb, .int up, .int bk])), (qd, .inr (1, [.ref ad])), (ad, .inl (cI, N, .inl fd)), (qe, .inr (1, [.ref ae])), (ae, .inl (cI, N, .inl fe)), (qo, .inr (1, [.ref ao])), (ao, .inl (cI, 20, .inl fo)), (r, .inr (2, [.ref qi, .ref qs, .ref qk, .ref qt, .int last, .int used, .int lod, .int uod])), (qi, .inr (1, [.ref ai])), (ai, .inl (cI, N, .inl fi)), (qs, .inr (1, [.ref aS])), (aS, .inl (cI, K, .inl fs)), (qk, .inr (1, [.ref ak])), (ak, .inl (cI, 6, .inl fk)), (qt, .inr (1, [.ref aT])), (aT, .inl (cI, 8, .inl ft)), (ja, .inl (cJ, 1, .inr (.inl fL)))] := k_Dw hD0 rfl
  have hS : va_S (mA [o, qd, ad, qe, ae, qo, ao, r, qi, ai, qs, aS, qk, ak, qt, aT, ja]) s.heap s.heap [] := va_S.rf
  have hl := lv_entry ([.ref o, .int number, .int what, .ref ja]) (n := 5) (Nat.le_of_ble_eq_true rfl)
  rw [lg_entry_eq]
  generalize (lg_sl ([.ref o, .int number, .int what, .ref ja]) ++ List.replicate (5 - (lg_sl ([.ref o, .int number, .int what, .ref ja])).length) Slot.unset).toArray = ls at hl ⊢
  have hl : lv_has ls 5 [(0, .ref o), (1, .int number), (2, .int what), (3, .ref ja)] := hl
  refine lv_aload_n hx hb dL_row_0 rfl (lv_at hl 3 rfl) ?_
  refine lv_iconst (v := 0) hx hb dL_row_1 (by decide) ?_
  refine lv_aload_n hx hb dL_row_2 rfl (lv_at hl 0 rfl) ?_
  refine lv_iload_n hx hb dL_row_3 rfl (lv_at hl 1 rfl) ?_
  refine lv_iload_n hx hb dL_row_4 rfl (lv_at hl 2 rfl) ?_
  refine k_afT (wc := [(o, .inr (3, [.int se, .ref qd, .ref qe, .ref qo, .ref r, .int tc, .int fb, .int up, .int bk])), (qd, .inr (1, [.ref ad])), (ad, .inl (cI, N, .inl fd)), (qe, .inr (1, [.ref ae])), (ae, .inl (cI, N, .inl fe)), (qo, .inr (1, [.ref ao])), (ao, .inl (cI, 20, .inl fo)), (r, .inr (2, [.ref qi, .ref qs, .ref qk, .ref qt, .int last, .int used, .int lod, .int uod])), (qi, .inr (1, [.ref ai])), (ai, .inl (cI, N, .inl fi)), (qs, .inr (1, [.ref aS])), (aS, .inl (cI, K, .inl fs)), (qk, .inr (1, [.ref ak])), (ak, .inl (cI, 6, .inl fk)), (qt, .inr (1, [.ref aT])), (aT, .inl (cI, 8, .inl ft))]) (ws' := [(o, .inr (3, [.int se, .ref qd, .ref qe, .ref qo, .ref r, .int tc, .int fb, .int up, .int bk])), (qd, .inr (1, [.ref ad])), (ad, .inl (cI, N, .inl fd)), (qe, .inr (1, [.ref ae])), (ae, .inl (cI, N, .inl fe)), (qo, .inr (1, [.ref ao])), (ao, .inl (cI, 20, .inl fo)), (r, .inr (2, [.ref qi, .ref qs, .ref qk, .ref qt, .int last, .int used, .int lod, .int uod])), (qi, .inr (1, [.ref ai])), (ai, .inl (cI, N, .inl fi)), (qs, .inr (1, [.ref aS])), (aS, .inl (cI, K, .inl fs)), (qk, .inr (1, [.ref ak])), (ak, .inl (cI, 6, .inl fk)), (qt, .inr (1, [.ref aT])), (aT, .inl (cI, 8, .inl ft)), (ja, .inl (cJ, 1, .inr (.inl fL)))]) (vx_runV (rest := [.int 0, .ref ja]) ⟨hx, hb, hml, hown, hts⟩ (mn_X2_row l dC dI cI cJ o qd ad qe ae qo ao r qi ai qs aS qk ak qt aT N K fd fe fo fi fs fk ft se tc fb up bk last used lod uod number what (by first | assumption | decide) (by first | assumption | decide) hst) (cwV 2 hts gnL_row_X2_row rfl rfl rfl hdv_X2_row ⟨Nat.le_of_ble_eq_true rfl, Nat.le_of_ble_eq_true rfl⟩) (k_preVT hK hP hD hS hT hZ [0, 1, 2, 3, 4, 5, 6, 7, 8, 9, 10, 11, 12, 13, 14, 15] rfl rfl rfl 0 rfl rfl) rfl rfl hl.1 rfl (lv_room (Nat.le_of_ble_eq_true rfl)) dL_row_5 ⟨Nat.le_of_ble_eq_true rfl, Nat.le_of_ble_eq_true rfl⟩) hP hD hS [0, 1, 2, 3, 4, 5, 6, 7, 8, 9, 10, 11, 12, 13, 14, 15] rfl rfl rfl rfl (fun E ce q9 H locs x1 hP hS hce hcv hcl => ?_) (fun x1 H locs hP hD hS => ?_)
  · obtain rfl : xIAE = E := Option.some.inj (hex.symm.trans x1)
    refine vx_catch hown [⟨0, 10, 13, 46⟩] ⟨0, 10, 17, 13⟩ [] htab (fun z hz => (List.mem_cons.mp hz).elim (fun e9 => e9 ▸ Or.inr ⟨by decide, xNSE, hts (.classLink RL 46 xNSE) (by decide +kernel), hN (xIAE, xNSE) (by decide +kernel)⟩) (fun h0 => nomatch h0)) (by decide) (by decide) (hts (.classLink RL 13 xIAE) (by decide +kernel)) (va_Nw.use rfl (hT.1 _ xcIAE)) hce hcv hcl ?_
    refine lv_astore (lv' := [(4, .ref q9), (0, .ref o), (1, .int number), (2, .int what), (3, .ref ja)]) hx hb dL_row_17 hl (by decide) rfl (fun ls hl => ?_)
    refine lv_iconst (v := 2) hx hb dL_row_19 (by decide) ?_
    exact k_iretW hx hb hr hlocks hP hS rfl rfl dL_row_20
  · rw [hex] at x1; cases x1
