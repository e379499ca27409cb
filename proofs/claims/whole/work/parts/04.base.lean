/-! BASE: what all contracts of this claim share. gK: the tables (a state's own, kept all along); worlds keep their order; a callee's part is named by its places. -/
def gNF : List (String × Nat × String × String × String × String) := [("StockLog", 92, "StockLog$Rows", "image", "LStockLog$Cells;", "StockLog"), ("StockLog", 172, "StockLog$Rows", "ofKind", "LStockLog$Cells;", "StockLog"), ("StockLog", 166, "StockLog$Rows", "last", "I", "StockLog"), ("StockLog", 98, "StockLog$Rows", "used", "I", "StockLog"), ("StockLog", 89, "StockLog$Rows", "lastOnDisk", "I", "StockLog"), ("StockLog", 95, "StockLog$Rows", "usedOnDisk", "I", "StockLog")]
def gNM : List (String × Nat × MethodName × String) := [("StockLog$Rows", 97, yX2_isKind, "StockLog"), ("StockLog$Rows", 61, yX2_sumOfRow, "StockLog")]
def gK (dC : Nat → ClassId) (dI : Nat → Nat → Nat) (cI cJ : ClassId) (U : State) : Prop := va_K (dC, dI) vwCl [(cI, .int), (cJ, .long)] U ∧ (∀ q ∈ gNF, va_Nw (.fieldLinkNest q.1 q.2.1 q.2.2.1 q.2.2.2.1 q.2.2.2.2.1 q.2.2.2.2.2) U) ∧ (∀ q ∈ gNM, va_Nw (.methodLinkNest q.1 q.2.1 q.2.2.1 q.2.2.2) U)
theorem gK.warm {dC : Nat → ClassId} {dI : Nat → Nat → Nat} {cI cJ : ClassId} {s U : State} (hW : s.WarmedH U.vm) (h : gK dC dI cI cJ s) : gK dC dI cI cJ U :=
  ⟨va_K.moved hW.alike h.1, fun q hq => va_Nw.warmF hW (h.2.1 q hq), fun q hq => va_Nw.warmM hW (h.2.2 q hq)⟩
theorem gK.call {dC : Nat → ClassId} {dI : Nat → Nat → Nat} {cI cJ : ClassId} {U : State} {g : JFrame} {mk : MethodId} {a : Array Value} (h : gK dC dI cI cJ U) : gK dC dI cI cJ (U.calling g mk a) :=
  ⟨va_K.moved (u := U) (U := U.calling g mk a) (Vm.Alike.refl U.vm) h.1, fun q hq => va_Nw.same rfl (u := U) rfl (h.2.1 q hq), fun q hq => va_Nw.same rfl (u := U) rfl (h.2.2 q hq)⟩
/-- a method that reads: its world stays -/
def mPr (dC : Nat → ClassId) (dI : Nat → Nat → Nat) (cI cJ : ClassId) (ws : va_W) (U : State) : Prop := va_P (dC, dI) vwCl ws U.heap ∧ gK dC dI cI cJ U
/-- a method that writes its world -/
def mPw (dC : Nat → ClassId) (dI : Nat → Nat → Nat) (cI cJ : ClassId) (ws : va_W) (U : State) : Prop := va_P (dC, dI) vwCl ws U.heap ∧ gK dC dI cI cJ U ∧ va_D (fun _ => True) ws
/-- the cells of a list of addresses -/
def mA (L : List Nat) : Nat → Prop := fun q => q ∈ L
def mQ (dC : Nat → ClassId) (dI : Nat → Nat → Nat) (ws' : va_W) (L : List Nat) (r : Option Value) : Array Value → State → Outcome → State → Prop := fun _ st o t => o = .returned r ∧ va_P (dC, dI) vwCl ws' t.heap ∧ va_F (mA L) st t
abbrev cP (l : Launch) (y : MethodName) (wl : List Cond) (rm : Room) (dC : Nat → ClassId) (dI : Nat → Nat → Nat) (cI cJ : ClassId) (ws : va_W) (av : List Value) (r : Int32) : Prop := Met l y wl rm (va_Pc av (mPr dC dI cI cJ ws)) (vp_Si (fun x => x = r)) 0 0 (fun _ => False)
abbrev cW (l : Launch) (y : MethodName) (wl : List Cond) (rm : Room) (dC : Nat → ClassId) (dI : Nat → Nat → Nat) (cI cJ : ClassId) (ws ws' : va_W) (L : List Nat) (av : List Value) (r : Option Value) : Prop := Met l y wl rm (va_Pc av (mPw dC dI cI cJ ws)) (mQ dC dI ws' L r) 0 0 (mA L)
/-- a world with the cells of some places put anew -/
def k_put (ws : va_W) (is : List Nat) (wc : va_W) : va_W := match is, wc with
  | i :: is, q :: wc => k_put (ws.set i q) is wc
  | _, _ => ws
section KB
variable {p : Program} {l : Launch} {e : Env} {R : Room} {s : State} {m : MethodId} {args : Array Value} {below : List Frame} {meth : Method} {c : Code} {H : Heap} {locs : List Loc} {cells slots : Nat} {Q : State → Prop}
variable {dC : Nat → ClassId} {dI : Nat → Nat → Nat} {cI cJ : ClassId} {ws ws' wc wc' : va_W} {A : Nat → Prop} {pc : Nat} {ls : Array Slot} {rest st0 : List Value} {av : List Value}
theorem k_blP : FrameBlind (va_Pc av (mPr dC dI cI cJ ws)) := fun _ _ _ _ q => ⟨q.1, q.2.1, q.2.2.call⟩
theorem k_blW : FrameBlind (va_Pc av (mPw dC dI cI cJ ws)) := fun _ _ _ _ q => ⟨q.1, q.2.1, q.2.2.1.call, q.2.2.2⟩
theorem k_recv {C : String} {T : u_T} {N ci b : Nat} {fs : List Value} (hK : gK dC dI cI cJ s) (hP : va_P (dC, dI) vwCl ws H) (q0 : Nat) (hc : vwCl[ci]? = some (C, T, N)) (he : ws[q0]? = some (b, .inr (ci, fs))) : ∃ cell : Cell, H[b]? = some cell ∧ cell.vm.isStatics = false ∧ s.vm.findClass C = some cell.cls := va_recv hK.1 hP hc he
theorem k_preVP {C : String} {T : u_T} {N ci b : Nat} {fs : List Value} {As : List Value} (hK : gK dC dI cI cJ s) (hP : va_P (dC, dI) vwCl ws H) (is : List Nat) (hs : is.filterMap (fun i => ws[i]?) = wc) (q0 : Nat) (hc : vwCl[ci]? = some (C, T, N)) (he : ws[q0]? = some (b, .inr (ci, fs))) : PreV s H C b (va_Pc (.ref b :: As) (mPr dC dI cI cJ wc)) As :=
  ⟨k_blP, k_recv hK hP q0 hc he, fun U hU hW => ⟨rfl, by rw [hU]; exact hP.sub is hs, hK.warm hW⟩⟩
theorem k_preSP {As : List Value} (hK : gK dC dI cI cJ s) (hP : va_P (dC, dI) vwCl ws H) (is : List Nat) (hs : is.filterMap (fun i => ws[i]?) = wc) : PreS s H (va_Pc As (mPr dC dI cI cJ wc)) As :=
  ⟨k_blP, fun U hU hW => ⟨rfl, by rw [hU]; exact hP.sub is hs, hK.warm hW⟩⟩
theorem k_subP {is : List Nat} (hP : va_P (dC, dI) vwCl ws H) (hs : is.map (fun i => ws[i]?) = wc.map some) : va_P (dC, dI) vwCl wc H := by
  intro k q hk
  have h1 : (wc.map some)[k]? = some (some q) := by simp [hk]
  rw [← hs, List.getElem?_map] at h1
  cases hi : is[k]? with
  | none => rw [hi] at h1; cases h1
  | some i => rw [hi] at h1; exact hP i q (Option.some.inj h1)
theorem k_preVW {C : String} {T : u_T} {N ci b : Nat} {fs : List Value} {As : List Value} (hK : gK dC dI cI cJ s) (hP : va_P (dC, dI) vwCl ws H) (hD : va_D A ws) (is : List Nat) (hn : va_nd is = true) (hs : is.map (fun i => ws[i]?) = wc.map some) (q0 : Nat) (hc : vwCl[ci]? = some (C, T, N)) (he : ws[q0]? = some (b, .inr (ci, fs))) : PreV s H C b (va_Pc (.ref b :: As) (mPw dC dI cI cJ wc)) As :=
  ⟨k_blW, k_recv hK hP q0 hc he, fun U hU hW => ⟨rfl, by rw [hU]; exact k_subP hP hs, hK.warm hW, (hD.sub is hn hs).weaken (fun _ _ _ _ => trivial)⟩⟩
theorem k_preSW {As : List Value} (hK : gK dC dI cI cJ s) (hP : va_P (dC, dI) vwCl ws H) (hD : va_D A ws) (is : List Nat) (hn : va_nd is = true) (hs : is.map (fun i => ws[i]?) = wc.map some) : PreS s H (va_Pc As (mPw dC dI cI cJ wc)) As :=
  ⟨k_blW, fun U hU hW => ⟨rfl, by rw [hU]; exact k_subP hP hs, hK.warm hW, (hD.sub is hn hs).weaken (fun _ _ _ _ => trivial)⟩⟩
/-- behind a call that reads -/
theorem k_afP {r : Int32} {a : Array Value} (hr : va_Run p l e R s m args below meth c H locs cells slots 0 0 (F0 m pc ls st0) rest (vp_Si (fun x => x = r) a) (fun _ => False))
    (kk : W p l e R s m args below meth c H locs cells slots Q (F0 m (pc + 3) ls (.int r :: rest))) : W p l e R s m args below meth c H locs cells slots Q (F0 m pc ls st0) :=
  vp_callSi hr.run (fun r' h => by rw [h]; exact kk)
/-- the cells of a changed world lie where they lay -/
theorem k_putP {D : va_G} {cl : List vw_C} {H1 : Heap} : ∀ (is : List Nat) (wc' ws0 : va_W) (ws : va_W), va_P D cl wc' H1 → (∀ (k : Nat) (q : Nat × va_E), ws[k]? = some q → (k ∈ is ∧ k ∉ ([] : List Nat)) ∨ va_at D cl q H1) → is.length = wc'.length → va_P D cl (k_put ws is wc') H1
  | [], [], _, ws, _, h, _ => fun k q hk => (h k q hk).elim (fun z => nomatch z.1) id
  | i :: is, q :: wc', ws0, ws, h1, h, hl => by
    refine k_putP is wc' ws0 (ws.set i q) (fun k x hk => h1 (k + 1) x hk) (fun k x hk => ?_) (by simpa using hl)
    rw [List.getElem?_set] at hk
    by_cases e : i = k
    · subst e
      simp at hk
      obtain ⟨-, rfl⟩ := hk
      exact Or.inr (h1 0 q rfl)
    · rw [if_neg e] at hk
      rcases h k x hk with ⟨g1, g2⟩ | g
      · rcases List.mem_cons.mp g1 with e2 | g1
        · exact absurd e2.symm e
        · exact Or.inl ⟨g1, g2⟩
      · exact Or.inr g
  | [], _ :: _, _, _, _, _, hl => by simp at hl
  | _ :: _, [], _, _, _, _, hl => by simp at hl
theorem k_putA {is : List Nat} : ∀ (wc wc' ws : va_W), is.map (fun i => (ws.map Prod.fst)[i]?) = wc.map (fun q => some q.1) → wc'.map Prod.fst = wc.map Prod.fst → (k_put ws is wc').map Prod.fst = ws.map Prod.fst := by
  induction is with
  | nil => intro wc wc' ws _ _; cases wc' <;> rfl
  | cons i is ih =>
    intro wc wc' ws h1 h2
    cases wc' with
    | nil => rfl
    | cons q wc' =>
      cases wc with
      | nil => simp at h1
      | cons x wc =>
        simp only [List.map_cons, List.cons.injEq] at h1 h2
        have e : (ws.set i q).map Prod.fst = ws.map Prod.fst := by
          rw [List.map_set, h2.1]
          refine List.ext_getElem? fun k => ?_
          rw [List.getElem?_set]
          by_cases e9 : i = k
          · subst e9
            rw [if_pos rfl, h1.1, if_pos (List.getElem?_eq_some_iff.mp h1.1).1]
          · rw [if_neg e9]
        show (k_put (ws.set i q) is wc').map Prod.fst = _
        rw [ih wc wc' (ws.set i q) (by rw [e]; exact h1.2) h2.2, e]
theorem k_Dof {ws ws' : va_W} (hD : va_D A ws) (h : ws'.map Prod.fst = ws.map Prod.fst) : va_D A ws' := by
  have at' : ∀ (k : Nat) (q : Nat × va_E), ws'[k]? = some q → ∃ q2, ws[k]? = some q2 ∧ q2.1 = q.1 := fun k q hk => by
    have h1 : (ws'.map Prod.fst)[k]? = some q.1 := by simp [hk]
    rw [h, List.getElem?_map] at h1
    cases hw : ws[k]? with
    | none => rw [hw] at h1; cases h1
    | some q2 => rw [hw] at h1; exact ⟨q2, rfl, Option.some.inj h1⟩
  refine ⟨fun i j x y hx hy e => ?_, fun k q hk => ?_⟩
  · obtain ⟨x2, a1, a2⟩ := at' i x hx
    obtain ⟨y2, b1, b2⟩ := at' j y hy
    exact hD.1 i j x2 y2 a1 b1 (by rw [a2, b2]; exact e)
  · obtain ⟨q2, a1, a2⟩ := at' k q hk
    rw [← a2]
    exact hD.2 k q2 a1
/-- a world with the callee's places put anew, in a heap where nothing else has changed -/
theorem k_putSame : ∀ (is : List Nat) (wc ws : va_W), is.map (fun i => ws[i]?) = wc.map some → k_put ws is wc = ws := by
  intro is
  induction is with
  | nil => intro wc ws _; cases wc <;> rfl
  | cons i is ih =>
    intro wc ws h
    cases wc with
    | nil => rfl
    | cons q wc =>
      simp only [List.map_cons, List.cons.injEq] at h
      have e : ws.set i q = ws := by
        refine List.ext_getElem? fun k => ?_
        rw [List.getElem?_set]
        by_cases e9 : i = k
        · subst e9
          rw [if_pos rfl, h.1, if_pos (List.getElem?_eq_some_iff.mp h.1).1]
        · rw [if_neg e9]
      show k_put (ws.set i q) is wc = ws
      rw [e]
      exact ih wc ws h.2
theorem k_join {L : List Nat} {t : Heap} {Lo : List Loc} (hP : va_P (dC, dI) vwCl ws H) (hD : va_D A ws) (hS : va_S A s.heap H locs) (is : List Nat) (hs : is.map (fun i => ws[i]?) = wc.map some) (hL : wc.map Prod.fst = L) (hadr : wc'.map Prod.fst = L) (hput : k_put ws is wc' = ws')
    (hP1 : va_P (dC, dI) vwCl wc' t) (hz : H.size ≤ t.size) (hk : ∀ q : Nat, q < H.size → ¬ mA L q → t[q]? = H[q]?) (hLo : ∀ q ∈ Lo, mA L q.base) : va_P (dC, dI) vwCl ws' t ∧ va_D A ws' ∧ va_S A s.heap t (locs ++ Lo) := by
  have hLw : ∀ q : Nat, q ∈ L → A q := fun q hq => by
    rw [← hL] at hq
    obtain ⟨x, hx, rfl⟩ := List.mem_map.mp hq
    obtain ⟨k, hk⟩ := List.mem_iff_getElem?.mp hx
    have h1 : (wc.map some)[k]? = some (some x) := by simp [hk]
    rw [← hs, List.getElem?_map] at h1
    cases hi : is[k]? with
    | none => rw [hi] at h1; cases h1
    | some i => rw [hi] at h1; exact hD.2 i x (Option.some.inj h1)
  have hpl : ∀ (k : Nat) (q : Nat × va_E), ws[k]? = some q → (k ∈ is ∧ k ∉ ([] : List Nat)) ∨ va_at (dC, dI) vwCl q t := fun k q hq => by
    by_cases hkL : q.1 ∈ L
    · left
      rw [← hL] at hkL
      obtain ⟨x, hx, e⟩ := List.mem_map.mp hkL
      obtain ⟨j, hj⟩ := List.mem_iff_getElem?.mp hx
      have h1 : (wc.map some)[j]? = some (some x) := by simp [hj]
      rw [← hs, List.getElem?_map] at h1
      cases hi : is[j]? with
      | none => rw [hi] at h1; cases h1
      | some i =>
        rw [hi] at h1
        have h2 : i = k := hD.1 i k x q (Option.some.inj h1) hq e
        subst h2
        exact ⟨List.mem_of_getElem? hi, by simp⟩
    · exact Or.inr ((hP k q hq).kept (hk q.1 (hP k q hq).lt hkL))
  have hlen : is.length = wc'.length := by
    have h1 := congrArg List.length hs
    have h2 := congrArg List.length (hadr.trans hL.symm)
    simp at h1 h2
    omega
  have hPn : va_P (dC, dI) vwCl ws' t := by
    rw [← hput]
    exact k_putP is wc' [] ws hP1 hpl hlen
  have hDn : va_D A ws' := k_Dof hD (by
    rw [← hput]
    refine k_putA wc wc' ws ?_ (hadr.trans hL.symm)
    have h3 := congrArg (List.map (fun o : Option (Nat × va_E) => o.map Prod.fst)) hs
    simp only [List.map_map] at h3
    refine Eq.trans ?_ (h3.trans ?_)
    · refine List.map_congr_left fun i _ => ?_
      simp
    · refine List.map_congr_left fun i _ => rfl)
  refine ⟨hPn, hDn, Nat.le_trans hS.1 hz, fun q h1 h2 => ?_, fun q hq => ?_⟩
  · rw [hk q (Nat.lt_of_lt_of_le h1 hS.1) (fun z => h2 (hLw q z))]
    exact hS.2.1 q h1 h2
  · rcases List.mem_append.mp hq with h | h
    · exact hS.2.2 q h
    · exact hLw _ (hLo q h)
/-- behind a call that writes: the callee's places anew, the rest as it was -/
theorem k_afW {r : Option Value} {a : Array Value} {L : List Nat} (hr : va_Run p l e R s m args below meth c H locs cells slots 0 0 (F0 m pc ls st0) rest (mQ dC dI wc' L r a) (mA L))
    (hP : va_P (dC, dI) vwCl ws H) (hD : va_D A ws) (hS : va_S A s.heap H locs) (is : List Nat) (hs : is.map (fun i => ws[i]?) = wc.map some) (hL : wc.map Prod.fst = L) (hadr : wc'.map Prod.fst = L) (hput : k_put ws is wc' = ws')
    (kk : ∀ (H1 : Heap) (locs1 : List Loc), va_P (dC, dI) vwCl ws' H1 → va_D A ws' → va_S A s.heap H1 locs1 → W p l e R s m args below meth c H1 locs1 cells slots Q (F0 m (pc + 3) ls (r.toList ++ rest))) : W p l e R s m args below meth c H locs cells slots Q (F0 m pc ls st0) := by
  intro T hT X
  obtain ⟨v, st₀, t, T', Lo, h0, X', hLo, e1, -, ⟨hv, hP1, hz, hk⟩, st⟩ := hr T hT X
  cases hv
  rw [h0] at hz hk
  obtain ⟨hPn, hDn, hSn⟩ := k_join (t := t.heap) hP hD hS is hs hL hadr hput hP1 hz hk hLo
  obtain ⟨t2, a1, b1⟩ := kk T'.heap (locs ++ Lo) (by rw [e1]; exact hPn) hDn (by rw [e1]; exact hSn) T' rfl X'
  exact ⟨t2, st t2 a1, b1⟩
/-- a field written -/
theorem k_putf {cc : ByteArray} (hexec : p.tables.exec = Jvm.exec) (hb : c.code = cc) {own ref C : String} {T : u_T} {N ci index a : Nat} {Ts : List Cond} (hts : ∀ w ∈ Ts, w.before args s = true) (hin : ∀ w ∈ u_ws C T N, w ∈ Ts) (ty0 : Nat → FieldType) (hty : ∀ k, k < N → parseFieldDescriptor (T k).2.2.1 = some (ty0 k)) (hnm : ∀ a, a < N → ∀ b, b < N → a ≠ b → (T a).2.1 ≠ (T b).2.1) (hown : s.vm.findClass own = some m.cls) (hK : gK dC dI cI cJ s) (hP : va_P (dC, dI) vwCl ws H) (hD : va_D A ws) (hS0 : va_S A s.heap H locs) (q0 : Nat) {fs : List Value} (he : ws[q0]? = some (a, .inr (ci, fs))) (hc : vwCl[ci]? = some (C, T, N)) (k : Nat) (hk : k < N) (hlink : (Cond.fieldLink own index ref (T k).2.1 (T k).2.2.1).before args s = true) (href : (T k).1 = ref) (hfin : (T k).2.2.2 = false) {ty : FieldType} {v : Value} (hd : ty0 k = ty) (hn : narrow ty v = v) (hfit : fits ty v = true) (hl : k < fs.length)
    (hdg : decode cc pc = .ok (.putfield index, 3)) (hset : ws.set q0 (a, .inr (ci, fs.set k v)) = ws') (kk : ∀ (H1 : Heap) (locs1 : List Loc), va_P (dC, dI) vwCl ws' H1 → va_D A ws' → va_S A s.heap H1 locs1 → W p l e R s m args below meth c H1 locs1 cells slots Q (F0 m (pc + 3) ls rest)) : W p l e R s m args below meth c H locs cells slots Q (F0 m pc ls (v :: .ref a :: rest)) := by
  subst hset
  exact va_put (D := (dC, dI)) hexec hb hts hin ty0 hty hnm hown hK.1 hP hD hS0 q0 he hc k hk hlink (fun _ h => by rw [← href]; exact h) hfin (by rw [hty k hk, hd]) hn hfit hl hdg kk
/-- a field read -/
theorem k_get {cc : ByteArray} (hexec : p.tables.exec = Jvm.exec) (hb : c.code = cc) {own ref C : String} {T : u_T} {N ci index a : Nat} {Ts : List Cond} (hts : ∀ w ∈ Ts, w.before args s = true) (hin : ∀ w ∈ u_ws C T N, w ∈ Ts) (hown : s.vm.findClass own = some m.cls) (hK : gK dC dI cI cJ s) (hP : va_P (dC, dI) vwCl ws H) (q0 : Nat) {fs : List Value} (he : ws[q0]? = some (a, .inr (ci, fs))) (hc : vwCl[ci]? = some (C, T, N)) (k : Nat) (hk : k < N) (hlink : (Cond.fieldLink own index ref (T k).2.1 (T k).2.2.1).before args s = true) (href : (T k).1 = ref) {v : Value} (hv : fs[k]? = some v) (hdg : decode cc pc = .ok (.getfield index, 3))
    (kk : W p l e R s m args below meth c H locs cells slots Q (F0 m (pc + 3) ls (v :: rest))) : W p l e R s m args below meth c H locs cells slots Q (F0 m pc ls (.ref a :: rest)) :=
  va_get (D := (dC, dI)) hexec hb hts hin hown hK.1 hP q0 he hc k hk hlink (fun _ h => by rw [← href]; exact h) hv hdg kk
/-- a nest mate's private field read -/
theorem k_getN {cc : ByteArray} (hexec : p.tables.exec = Jvm.exec) (hb : c.code = cc) {own ref C host : String} {T : u_T} {N ci index a : Nat} {Ts : List Cond} (hts : ∀ w ∈ Ts, w.before args s = true) (hin : ∀ w ∈ u_ws C T N, w ∈ Ts) (hown : s.vm.findClass own = some m.cls) (hK : gK dC dI cI cJ s) (hP : va_P (dC, dI) vwCl ws H) (q0 : Nat) {fs : List Value} (he : ws[q0]? = some (a, .inr (ci, fs))) (hc : vwCl[ci]? = some (C, T, N)) (k : Nat) (hk : k < N) (hmem : (own, index, ref, (T k).2.1, (T k).2.2.1, host) ∈ gNF) (href : (T k).1 = ref) {v : Value} (hv : fs[k]? = some v) (hdg : decode cc pc = .ok (.getfield index, 3))
    (kk : W p l e R s m args below meth c H locs cells slots Q (F0 m (pc + 3) ls (v :: rest))) : W p l e R s m args below meth c H locs cells slots Q (F0 m pc ls (.ref a :: rest)) :=
  va_getN (D := (dC, dI)) hexec hb hts hin hown hK.1 hP q0 he hc k hk (va_Nw.use rfl (hK.2.1 _ hmem)) (fun _ h => by rw [← href]; exact h) hv hdg kk
/-- an int read -/
theorem k_iald {cc : ByteArray} (hexec : p.tables.exec = Jvm.exec) (hb : c.code = cc) {a : Nat} (hK : gK dC dI cI cJ s) (hP : va_P (dC, dI) vwCl ws H) (q0 : Nat) {n : Nat} {f : Nat → Int32} (ha : ws[q0]? = some (a, .inl (cI, n, .inl f))) {i : Int32} (hin : vp_in i n) (hdg : decode cc pc = .ok (.iaload, 1))
    (kk : W p l e R s m args below meth c H locs cells slots Q (F0 m (pc + 1) ls (.int (f i.toNatClampNeg) :: rest))) : W p l e R s m args below meth c H locs cells slots Q (F0 m pc ls (.int i :: .ref a :: rest)) := va_iald hexec hb hK.1 hP q0 0 ha rfl hin hdg kk
/-- an int written -/
theorem k_iast {cc : ByteArray} (hexec : p.tables.exec = Jvm.exec) (hb : c.code = cc) {a : Nat} (hK : gK dC dI cI cJ s) (hP : va_P (dC, dI) vwCl ws H) (hD : va_D A ws) (hS : va_S A s.heap H locs) (q0 : Nat) {n : Nat} {f : Nat → Int32} (ha : ws[q0]? = some (a, .inl (cI, n, .inl f))) {i x : Int32} (hin : vp_in i n) (hdg : decode cc pc = .ok (.iastore, 1)) (hset : ws.set q0 (a, .inl (cI, n, .inl (upd f i.toNatClampNeg x))) = ws')
    (kk : ∀ (H1 : Heap) (locs1 : List Loc), va_P (dC, dI) vwCl ws' H1 → va_D A ws' → va_S A s.heap H1 locs1 → W p l e R s m args below meth c H1 locs1 cells slots Q (F0 m (pc + 1) ls rest)) : W p l e R s m args below meth c H locs cells slots Q (F0 m pc ls (.int x :: .int i :: .ref a :: rest)) := by
  subst hset
  exact va_iast hexec hb hK.1 hP hD hS q0 0 ha rfl hin hdg kk
theorem k_alen {cc : ByteArray} (hexec : p.tables.exec = Jvm.exec) (hb : c.code = cc) {a : Nat} (hK : gK dC dI cI cJ s) (hP : va_P (dC, dI) vwCl ws H) (q0 : Nat) {n : Nat} {f : Nat → Int32} (ha : ws[q0]? = some (a, .inl (cI, n, .inl f))) (hdg : decode cc pc = .ok (.arraylength, 1))
    (kk : W p l e R s m args below meth c H locs cells slots Q (F0 m (pc + 1) ls (.int (nI n) :: rest))) : W p l e R s m args below meth c H locs cells slots Q (F0 m pc ls (.ref a :: rest)) := va_alen hexec hb hK.1 hP q0 0 ha (ty := .int) rfl rfl hdg kk
/-- the end of a method that reads -/
theorem k_iretP {cc : ByteArray} {v r : Int32} {ret : Option FieldType} (hexec : p.tables.exec = Jvm.exec) (hb : c.code = cc) (hr : meth.sig.returnType = some .int) (hlocks : meth.locks = false) (hv : v = r) (hH : H = s.heap) (hdg : decode cc pc = .ok (.ireturn, 1)) : W p l e R s m args below meth c H [] cells slots (MQ below (vp_Si (fun x => x = r)) args s cells slots (fun _ => False)) (F0 m pc ls [.int v]) :=
  W.iret hexec hb hr (fun t ht _ => ⟨v, rfl, hv, ht.trans hH⟩) (fun _ h => nomatch h) hdg
theorem k_zretP {cc : ByteArray} {v r : Int32} {ret : Option FieldType} (hexec : p.tables.exec = Jvm.exec) (hb : c.code = cc) (hr : meth.sig.returnType = some .boolean) (hlocks : meth.locks = false) (hv : v = r) (h01 : v = 0 ∨ v = 1) (hH : H = s.heap) (hdg : decode cc pc = .ok (.ireturn, 1)) : W p l e R s m args below meth c H [] cells slots (MQ below (vp_Si (fun x => x = r)) args s cells slots (fun _ => False)) (F0 m pc ls [.int v]) := by
  rcases h01 with rfl | rfl
  · exact W.zret hexec hb hr rfl (fun t ht _ => ⟨_, rfl, hv, ht.trans hH⟩) (fun _ h => nomatch h) hdg
  · exact W.zret hexec hb hr rfl (fun t ht _ => ⟨_, rfl, hv, ht.trans hH⟩) (fun _ h => nomatch h) hdg
/-- the end of a method that writes -/
theorem k_iretW {cc : ByteArray} {L : List Nat} {v : Int32} {rr : Option Value} (hexec : p.tables.exec = Jvm.exec) (hb : c.code = cc) (hr : meth.sig.returnType = some .int) (hlocks : meth.locks = false) (hP : va_P (dC, dI) vwCl ws H) (hS : va_S (mA L) s.heap H locs) (hv : some (.int v) = rr) (hw : ws = ws') (hdg : decode cc pc = .ok (.ireturn, 1)) : W p l e R s m args below meth c H locs cells slots (MQ below (mQ dC dI ws' L rr) args s cells slots (mA L)) (F0 m pc ls [.int v]) := by
  subst hw; subst hv
  exact W.iret hexec hb hr (fun t ht _ => ⟨rfl, by rw [ht]; exact hP, hS.F ht⟩) hS.2.2 hdg
theorem k_vretW {cc : ByteArray} {L : List Nat} (hexec : p.tables.exec = Jvm.exec) (hb : c.code = cc) (hr : meth.sig.returnType = none) (hlocks : meth.locks = false) (hP : va_P (dC, dI) vwCl ws H) (hS : va_S (mA L) s.heap H locs) (hw : ws = ws') (hdg : decode cc pc = .ok (.return_, 1)) : W p l e R s m args below meth c H locs cells slots (MQ below (mQ dC dI ws' L none) args s cells slots (mA L)) (F0 m pc ls []) := by
  subst hw
  exact W.vret hexec hb hr (fun t ht _ => ⟨rfl, by rw [ht]; exact hP, hS.F ht⟩) hS.2.2 hdg
end KB
theorem k_Dw {ws : va_W} {L : List Nat} (hD : va_D (fun _ => True) ws) (h : ws.map Prod.fst = L) : va_D (mA L) ws := ⟨hD.1, fun k q hk => by
  rw [← h]
  exact List.mem_map.mpr ⟨q, List.mem_of_getElem? hk, rfl⟩⟩
/-! LOOPS: a counter i up to a bound b; a step goes on, or ends with an answer -/
theorem k_dec {i b : Int32} (h : ¬ b ≤ i) : (b.toInt - (i + 1).toInt).toNat < (b.toInt - i.toInt).toNat := by
  have h1 : ¬ b.toInt ≤ i.toInt := fun q => h (Int32.le_iff_toInt_le.mpr q)
  have h2 := b.toInt_lt
  have h3 := i.le_toInt
  have h4 : (i + 1).toInt = i.toInt + 1 := by
    rw [Int32.toInt_add]
    have : (1 : Int32).toInt = 1 := rfl
    rw [this]
    apply Int.bmod_eq_of_le <;> omega
  omega
def loopE {S T : Type} (b : Int32) (step : Int32 → S → S ⊕ T) (fin : S → T) (i : Int32) (x : S) : T :=
  if h : b ≤ i then fin x else match step i x with
    | .inl y => loopE b step fin (i + 1) y
    | .inr r => r
termination_by (b.toInt - i.toInt).toNat
decreasing_by exact k_dec h
theorem loopE_exit {S T : Type} {b : Int32} {step : Int32 → S → S ⊕ T} {fin : S → T} {i : Int32} {x : S} (h : b ≤ i) : loopE b step fin i x = fin x := by rw [loopE, dif_pos h]
theorem loopE_go {S T : Type} {b : Int32} {step : Int32 → S → S ⊕ T} {fin : S → T} {i : Int32} {x y : S} (h : ¬ b ≤ i) (hs : step i x = .inl y) : loopE b step fin i x = loopE b step fin (i + 1) y := by rw [loopE, dif_neg h, hs]
theorem loopE_ret {S T : Type} {b : Int32} {step : Int32 → S → S ⊕ T} {fin : S → T} {i : Int32} {x : S} {r : T} (h : ¬ b ≤ i) (hs : step i x = .inr r) : loopE b step fin i x = r := by rw [loopE, dif_neg h, hs]
