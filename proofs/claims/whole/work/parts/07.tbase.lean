/-! THROWS: what a method that may throw says; the words and statics that a throw asks for -/
abbrev xIAE : String := "java/lang/IllegalArgumentException"
abbrev xUOE : String := "java/lang/UnsupportedOperationException"
abbrev xISE : String := "java/lang/IllegalStateException"
abbrev xNSE : String := "java/util/NoSuchElementException"
abbrev xAIE : String := "java/lang/ArrayIndexOutOfBoundsException"
abbrev xN2 : List String := ["java/lang/RuntimeException", "java/lang/Exception"]
abbrev xNIAE : List String := xN2
abbrev xNUOE : List String := xN2
abbrev xNISE : List String := xN2
abbrev xNNSE : List String := xN2
abbrev xNAIE : List String := ["java/lang/IndexOutOfBoundsException", "java/lang/RuntimeException", "java/lang/Exception"]
abbrev xaIAE : List Cond := vx_atS RX2 55 xIAE xNIAE
abbrev xaUOE : List Cond := vx_atS RX2 68 xUOE xNUOE
abbrev xaISE : List Cond := vx_atS RX2 165 xISE xNISE
abbrev xaNSE : List Cond := vx_atS RX2 138 xNSE xNNSE
abbrev xaAIE : List Cond := vx_atS RX2 188 xAIE xNAIE
/-- the words of throws that aren't kept by the tables' growth alone -/
def gXW : List Cond := (xaIAE ++ xaUOE ++ xaISE ++ xaNSE ++ xaAIE).filter (fun w => !goodWord w)
theorem gXW_face : ∀ w ∈ gXW, w.faceAtom = true := by decide +kernel
theorem gXW_on : ∀ w ∈ gXW, w.onTables = true := by decide +kernel
theorem xb_of {L : List Cond} (h : ∀ w ∈ L, w ∈ xaIAE ++ xaUOE ++ xaISE ++ xaNSE ++ xaAIE) : ∀ w ∈ L.filter (fun w => !goodWord w), w ∈ gXW := fun w hw => by
  obtain ⟨h1, h2⟩ := List.mem_filter.mp hw
  exact List.mem_filter.mpr ⟨h w h1, h2⟩
theorem xbIAE : ∀ w ∈ xaIAE.filter (fun w => !goodWord w), w ∈ gXW := xb_of (fun _ h => List.mem_append_left _ (List.mem_append_left _ (List.mem_append_left _ (List.mem_append_left _ h))))
theorem xbUOE : ∀ w ∈ xaUOE.filter (fun w => !goodWord w), w ∈ gXW := xb_of (fun _ h => List.mem_append_left _ (List.mem_append_left _ (List.mem_append_left _ (List.mem_append_right _ h))))
theorem xbISE : ∀ w ∈ xaISE.filter (fun w => !goodWord w), w ∈ gXW := xb_of (fun _ h => List.mem_append_left _ (List.mem_append_left _ (List.mem_append_right _ h)))
theorem xbNSE : ∀ w ∈ xaNSE.filter (fun w => !goodWord w), w ∈ gXW := xb_of (fun _ h => List.mem_append_left _ (List.mem_append_right _ h))
theorem xbAIE : ∀ w ∈ xaAIE.filter (fun w => !goodWord w), w ∈ gXW := xb_of (fun _ h => List.mem_append_right _ h)
theorem xgIAE : ∀ w ∈ Cond.classLink RX2 51 xIAE :: Cond.initialized xIAE :: xaIAE, vx_ot w = true := by decide +kernel
theorem xgUOE : ∀ w ∈ Cond.classLink RX2 64 xUOE :: Cond.initialized xUOE :: xaUOE, vx_ot w = true := by decide +kernel
theorem xgISE : ∀ w ∈ Cond.classLink RX2 161 xISE :: Cond.initialized xISE :: xaISE, vx_ot w = true := by decide +kernel
theorem xgNSE : ∀ w ∈ Cond.classLink RX2 134 xNSE :: Cond.initialized xNSE :: xaNSE, vx_ot w = true := by decide +kernel
theorem xgAIE : ∀ w ∈ Cond.classLink RX2 184 xAIE :: Cond.initialized xAIE :: xaAIE, vx_ot w = true := by decide +kernel
def gStr : List (Nat × String) := [(53, "a byte is 0 .. 255"), (66, "a row has at most twenty bytes"), (73, "a whole state is not told byte by byte"), (111, "not so many bytes in memory"), (113, "a cut's mask is 0 .. 255"), (125, "a poke's mask is 1 .. 255"), (136, "no such row"), (148, "no such thing to ask of a row"), (150, "rows of a kind are counted from 0 on"), (163, "there is no backup"), (178, "no such kind"), (180, "the disk is down"), (182, "the disk is full"), (186, "no such byte of the disk"), (189, "no such byte of the row")]
def gT (U : State) : Prop := (∀ w ∈ gXW, va_Nw w U) ∧ ∀ q ∈ gStr, ∃ sa : Nat, vk_R RX2 q.1 q.2 sa U
theorem gT.warm {s U : State} (hW : s.WarmedH U.vm) (h : gT s) : gT U :=
  ⟨fun w hw => va_tabs (gXW_on w hw) (rfl : (s.setVm U.vm).vm = U.vm) (Cond.faceAtom_setVm hW.alike w (gXW_face w hw) (h.1 w hw)), fun q hq => (h.2 q hq).imp fun _ z => z.warm hW⟩
theorem gT.call {U : State} {g : JFrame} {mk : MethodId} {a : Array Value} (h : gT U) : gT (U.calling g mk a) :=
  ⟨fun w hw => va_Nw.same (gXW_on w hw) (u := U) rfl (h.1 w hw), fun q hq => (h.2 q hq).imp fun _ z => z.same (u := U) rfl⟩
/-- Throwable's two statics, in a heap, outside the cells of L -/
def gZ (L : List Nat) (U : State) (H : Heap) : Prop := vx_Zq Bundle.tN "UNASSIGNED_STACK" Bundle.steD (mA L) U H ∧ vx_Zq Bundle.tN "SUPPRESSED_SENTINEL" Bundle.listD (mA L) U H
theorem gZ.moved {L : List Nat} {u U : State} {H : Heap} (h : u.vm.Alike U.vm) (hz : gZ L u H) : gZ L U H := ⟨vx_Zq.moved h hz.1, vx_Zq.moved h hz.2⟩
theorem gZ.kept {L : List Nat} {U : State} {H H1 : Heap} (hz : gZ L U H) (hq : ∀ a : Nat, a < H.size → ¬ mA L a → H1[a]? = H[a]?) : gZ L U H1 := ⟨hz.1.kept hq, hz.2.kept hq⟩
theorem gZ.narrow {L L2 : List Nat} {U : State} {H : Heap} (hz : gZ L U H) (hq : ∀ q, mA L2 q → mA L q) : gZ L2 U H := ⟨hz.1.narrow hq, hz.2.narrow hq⟩
def mPt (dC : Nat → ClassId) (dI : Nat → Nat → Nat) (cI cJ : ClassId) (ws : va_W) (L : List Nat) (U : State) : Prop := va_P (dC, dI) vwCl ws U.heap ∧ gK dC dI cI cJ U ∧ va_D (fun _ => True) ws ∧ gT U ∧ gZ L U U.heap
def tQ (dC : Nat → ClassId) (dI : Nat → Nat → Nat) (ex : Option String) (ws' : va_W) (L : List Nat) (r : Option Value) : Array Value → State → Outcome → State → Prop := fun _ st o t => ex = none ∧ o = .returned r ∧ va_P (dC, dI) vwCl ws' t.heap ∧ va_F (mA L) st t
def tX (dC : Nat → ClassId) (dI : Nat → Nat → Nat) (ex : Option String) (ws : va_W) (L : List Nat) : String → State → State → Prop := fun E st t => ex = some E ∧ va_P (dC, dI) vwCl ws t.heap ∧ va_F (mA L) st t
abbrev cT (l : Launch) (y : MethodName) (wl : List Cond) (rm : Room) (dC : Nat → ClassId) (dI : Nat → Nat → Nat) (cI cJ : ClassId) (ws ws' : va_W) (L : List Nat) (av : List Value) (ex : Option String) (r : Option Value) (mc ms : Nat) : Prop := vx_Met l y wl rm (va_Pc av (mPt dC dI cI cJ ws L)) (tQ dC dI ex ws' L r) (tX dC dI ex ws L) mc ms (mA L)
section KT
variable {p : Program} {l : Launch} {e : Env} {R : Room} {s : State} {m : MethodId} {args : Array Value} {below : List Frame} {meth : Method} {c : Code} {H : Heap} {locs : List Loc} {cells slots : Nat} {Q : State → Prop}
variable {dC : Nat → ClassId} {dI : Nat → Nat → Nat} {cI cJ : ClassId} {ws ws' ws0 wc wc' : va_W} {A : Nat → Prop} {pc : Nat} {ls : Array Slot} {rest st0 : List Value} {av : List Value} {L Lc : List Nat} {ex exc : Option String} {rr : Option Value} {mc ms : Nat}
theorem k_blT : FrameBlind (va_Pc av (mPt dC dI cI cJ ws L)) := fun _ U g mk q => ⟨q.1, q.2.1, q.2.2.1.call, q.2.2.2.1, q.2.2.2.2.1.call, gZ.moved (u := U) (U := U.calling g mk _) (Vm.Alike.refl U.vm) q.2.2.2.2.2⟩
theorem k_inA (hD : va_D A ws) {is : List Nat} (hs : is.map (fun i => ws[i]?) = wc.map some) (hL : wc.map Prod.fst = Lc) : ∀ q : Nat, mA Lc q → A q := fun q hq => by
  have hq : q ∈ Lc := hq
  rw [← hL] at hq
  obtain ⟨x, hx, rfl⟩ := List.mem_map.mp hq
  obtain ⟨k, hk⟩ := List.mem_iff_getElem?.mp hx
  have h1 : (wc.map some)[k]? = some (some x) := by simp [hk]
  rw [← hs, List.getElem?_map] at h1
  cases hi : is[k]? with
  | none => rw [hi] at h1; cases h1
  | some i => rw [hi] at h1; exact hD.2 i x (Option.some.inj h1)
theorem k_preVT {C : String} {T : u_T} {N ci b : Nat} {fs : List Value} {As : List Value} (hK : gK dC dI cI cJ s) (hP : va_P (dC, dI) vwCl ws H) (hD : va_D (mA L) ws) (hS : va_S (mA L) s.heap H locs) (hT : gT s) (hZ : gZ L s s.heap) (is : List Nat) (hn : va_nd is = true) (hs : is.map (fun i => ws[i]?) = wc.map some) (hL : wc.map Prod.fst = Lc) (q0 : Nat) (hc : vwCl[ci]? = some (C, T, N)) (he : ws[q0]? = some (b, .inr (ci, fs))) : PreV s H C b (va_Pc (.ref b :: As) (mPt dC dI cI cJ wc Lc)) As :=
  ⟨k_blT, k_recv hK hP q0 hc he, fun U hU hW => ⟨rfl, by rw [hU]; exact k_subP hP hs, hK.warm hW, (hD.sub is hn hs).weaken (fun _ _ _ _ => trivial), hT.warm hW, by
    rw [hU]
    exact gZ.moved hW.alike ((hZ.kept hS.2.1).narrow (k_inA hD hs hL))⟩⟩
/-- behind a call that may throw -/
theorem k_afT {r : Option Value} {a : Array Value} (hr : vx_Run p l e R s m args below meth c H locs cells slots mc ms (F0 m pc ls st0) rest (tQ dC dI exc wc' Lc r a) (tX dC dI exc wc Lc) (mA Lc))
    (hP : va_P (dC, dI) vwCl ws H) (hD : va_D A ws) (hS : va_S A s.heap H locs) (is : List Nat) (hs : is.map (fun i => ws[i]?) = wc.map some) (hL : wc.map Prod.fst = Lc) (hadr : wc'.map Prod.fst = Lc) (hput : k_put ws is wc' = ws')
    (kx : ∀ (E : String) (ce : Cell) (q9 : Addr) (H1 : Heap) (locs1 : List Loc), exc = some E → va_P (dC, dI) vwCl ws H1 → va_S A s.heap H1 locs1 → H1[q9]? = some ce → ce.vm = .none → s.vm.findClass E = some ce.cls → vx_W p l e R s m args below meth c H1 locs1 (cells + mc) (slots + ms) Q (F0 m pc ls rest) q9)
    (kk : exc = none → ∀ (H1 : Heap) (locs1 : List Loc), va_P (dC, dI) vwCl ws' H1 → va_D A ws' → va_S A s.heap H1 locs1 → W p l e R s m args below meth c H1 locs1 (cells + mc) (slots + ms) Q (F0 m (pc + 3) ls (r.toList ++ rest))) : W p l e R s m args below meth c H locs cells slots Q (F0 m pc ls st0) := by
  intro T hT X
  have hLw := k_inA hD hs hL
  rcases hr T hT X with ⟨v, st₀, t, T', Lo, h0, X', hLo, e1, -, ⟨hex, hv, hP1, hz, hk⟩, st⟩ | ⟨q, st₀, t, T', Lo, E, ce, h0, X', hLo, e1, -, ⟨hex, hP1, hz, hk⟩, hce, hcv, hcl, st⟩
  · cases hv
    rw [h0] at hz hk
    obtain ⟨hPn, hDn, hSn⟩ := k_join (t := t.heap) hP hD hS is hs hL hadr hput hP1 hz hk hLo
    obtain ⟨t2, a1, b1⟩ := kk hex T'.heap (locs ++ Lo) (by rw [e1]; exact hPn) hDn (by rw [e1]; exact hSn) T' rfl X'
    exact ⟨t2, st t2 a1, b1⟩
  · rw [h0] at hz hk
    have hput2 : k_put ws is wc = ws := k_putSame is wc ws hs
    obtain ⟨hPn, hDn, hSn⟩ := k_join (t := t.heap) hP hD hS is hs hL hL hput2 hP1 hz hk hLo
    obtain ⟨t2, a1, b1⟩ := kx E ce q T'.heap (locs ++ Lo) hex (by rw [e1]; exact hPn) (by rw [e1]; exact hSn) (by rw [e1]; exact hce) hcv hcl T' rfl X'
    exact ⟨t2, st.trans a1, b1⟩
/-- throw new E("text") -/
theorem k_throw {cc : ByteArray} (hexec : p.tables.exec = Jvm.exec) (hb : c.code = cc) (hl : l.stackTraces = false) {cls text : String} {names : List String} {ik is ic : Nat}
    (hown : s.vm.findClass RX2 = some m.cls) (hcls : Bundle.fit cls = true) (hnames : ∀ n ∈ names, Bundle.fit n = true)
    (hk : (Cond.classLink RX2 ik cls).before args s = true) (hini : (Cond.initialized cls).before args s = true) (hat : ∀ w ∈ vx_atS RX2 ic cls names, w.before args s = true)
    (hgood : ∀ w ∈ Cond.classLink RX2 ik cls :: Cond.initialized cls :: vx_atS RX2 ic cls names, vx_ot w = true)
    (hT : gT s) (hstr : (is, text) ∈ gStr) (hZ : gZ L s s.heap) (hP : va_P (dC, dI) vwCl ws H) (hS : va_S (mA L) s.heap H locs) (hsize : ls.size = c.maxLocals)
    (d0 : decode cc pc = .ok (.new ik, 3)) (d3 : decode cc (pc + 3) = .ok (.dup, 1)) (d4 : decode cc (pc + 4) = .ok (.ldc is, 2)) (d6 : decode cc (pc + 6) = .ok (.invokespecial ic, 3)) (d9 : decode cc (pc + 9) = .ok (.athrow, 1))
    (hno : ∀ x ∈ c.exceptionTable.toList, False)
    (hRframes : names.length + 3 < R.frames) (hRlocals : (rest.map fun v => v.category).sum + (13 * (names.length + 1) + 43) ≤ R.locals) (hRcells : cells + 1 ≤ R.cells) (hRslots : slots + 6 ≤ R.slots) (hlocks : meth.locks = false)
    (hex : ex = some cls) (hw : ws = ws0) (hc : cells + 1 ≤ mc) (hs : slots + 6 ≤ ms) :
    W p l e R s m args below meth c H locs cells slots (vx_MQ below (tQ dC dI ex ws' L rr) (tX dC dI ex ws0 L) args s mc ms (mA L)) (F0 m pc ls rest) := by
  subst hw
  obtain ⟨sa, hsa⟩ := hT.2 _ hstr
  refine vx_throwS (A := mA L) (sa := sa) hexec hb hl hown hcls hnames hk hini hsa hat hgood hZ.1 hZ.2 hS hsize d0 d3 d4 d6 d9 (fun x hx => (hno x hx).elim) hRframes hRlocals hRcells hRslots hlocks (fun t ht h1 h2 => ⟨hex, hP.kept (fun k q hq => h2 q.1 (hP k q hq).lt), Nat.le_trans hS.1 h1, fun q g1 g2 => ?_⟩) hS.2.2 hc hs
  rw [h2 q (Nat.lt_of_lt_of_le g1 hS.1)]
  exact hS.2.1 q g1 g2
theorem k_outT {E : String} {ce : Cell} {q : Addr} (hno : ∀ x ∈ c.exceptionTable.toList, False) (hlocks : meth.locks = false) (hcell : H[q]? = some ce) (hv : ce.vm = .none) (hcl : s.vm.findClass E = some ce.cls) (hP : va_P (dC, dI) vwCl ws H) (hS : va_S (mA L) s.heap H locs) (hex : ex = some E) (hw : ws = ws0) (hc : cells ≤ mc) (hs : slots ≤ ms) :
    vx_W p l e R s m args below meth c H locs cells slots (vx_MQ below (tQ dC dI ex ws' L rr) (tX dC dI ex ws0 L) args s mc ms (mA L)) (F0 m pc ls rest) q := by
  subst hw
  exact vx_out (fun x hx => (hno x hx).elim) hlocks hcell hv hcl (fun t ht _ => ⟨hex, by rw [ht]; exact hP, hS.F ht⟩) hS.2.2 hc hs
theorem k_iretT {cc : ByteArray} {v : Int32} (hexec : p.tables.exec = Jvm.exec) (hb : c.code = cc) (hr : meth.sig.returnType = some .int) (hlocks : meth.locks = false) (hP : va_P (dC, dI) vwCl ws H) (hS : va_S (mA L) s.heap H locs) (hex : ex = none) (hv : some (.int v) = rr) (hw : ws = ws') (hc : cells ≤ mc) (hs : slots ≤ ms) (hdg : decode cc pc = .ok (.ireturn, 1)) :
    W p l e R s m args below meth c H locs cells slots (vx_MQ below (tQ dC dI ex ws' L rr) (tX dC dI ex ws0 L) args s mc ms (mA L)) (F0 m pc ls [.int v]) := by
  subst hw; subst hv
  exact vx_ret (W.widen hc hs (W.iret hexec hb hr (fun t ht _ => ⟨hex, rfl, by rw [ht]; exact hP, hS.F ht⟩) hS.2.2 hdg))
theorem k_vretT {cc : ByteArray} (hexec : p.tables.exec = Jvm.exec) (hb : c.code = cc) (hr : meth.sig.returnType = none) (hlocks : meth.locks = false) (hP : va_P (dC, dI) vwCl ws H) (hS : va_S (mA L) s.heap H locs) (hex : ex = none) (hw : ws = ws') (hc : cells ≤ mc) (hs : slots ≤ ms) (hdg : decode cc pc = .ok (.return_, 1)) :
    W p l e R s m args below meth c H locs cells slots (vx_MQ below (tQ dC dI ex ws' L none) (tX dC dI ex ws0 L) args s mc ms (mA L)) (F0 m pc ls []) := by
  subst hw
  exact vx_ret (W.widen hc hs (W.vret hexec hb hr (fun t ht _ => ⟨hex, rfl, by rw [ht]; exact hP, hS.F ht⟩) hS.2.2 hdg))
end KT
theorem goodIn_mono {big ws e : List Cond} (h : GoodIn big ws) : GoodIn (big ++ e) ws := fun w hw => ⟨List.mem_append_left _ (h w hw).1, (h w hw).2⟩
theorem goodIn_ext {big ws e : List Cond} (h : GoodIn big ws) (he : e.all goodWord = true) : GoodIn (big ++ e) (ws ++ e) := fun w hw => (List.mem_append.mp hw).elim (fun h1 => ⟨List.mem_append_left _ (h w h1).1, (h w h1).2⟩) (fun h1 => ⟨List.mem_append_right _ h1, good_of_word (List.all_eq_true.mp he w h1)⟩)
theorem xaAIE_good : (xaAIE.filter goodWord).all goodWord = true := List.all_eq_true.mpr fun _ h => (List.mem_filter.mp h).2
def wqX2_placeOf : List Cond := wsX2_placeOf ++ xaAIE.filter goodWord
def wqX2_poke : List Cond := wsX2_poke ++ xaAIE.filter goodWord
def wqX2_byteOf : List Cond := wsX2_byteOf ++ xaAIE.filter goodWord
theorem gqX2_poke_X2_placeOf : GoodIn wqX2_poke (wsV RX2 127 RX2 yX2_placeOf wqX2_placeOf) := by
  rw [wsV, wqX2_placeOf, ← List.append_assoc]
  exact goodIn_ext gX2_poke_X2_placeOf xaAIE_good
theorem gqX2_byteOf_X2_placeOf : GoodIn wqX2_byteOf (wsV RX2 127 RX2 yX2_placeOf wqX2_placeOf) := by
  rw [wsV, wqX2_placeOf, ← List.append_assoc]
  exact goodIn_ext gX2_byteOf_X2_placeOf xaAIE_good
theorem gqX2_poke_X0_at : GoodIn wqX2_poke (wsV RX2 115 RX0 yX0_at wsX0_at) := goodIn_mono gX2_poke_X0_at
theorem gqX2_poke_X0_set : GoodIn wqX2_poke (wsV RX2 69 RX0 yX0_set wsX0_set) := goodIn_mono gX2_poke_X0_set
theorem gqX2_byteOf_X0_at : GoodIn wqX2_byteOf (wsV RX2 115 RX0 yX0_at wsX0_at) := goodIn_mono gX2_byteOf_X0_at
