/-! THE LAW'S HELPERS: a call of the class, its exceptions caught -/
def gNl : List (String × String) := [(xISE, xIAE), (xUOE, xIAE), (xUOE, xISE), (xAIE, xIAE), (xIAE, xNSE)]
def gN (U : State) : Prop := ∀ q ∈ gNl, va_Nc q.1 q.2 U
theorem gN.moved {u U : State} (h : u.vm.Alike U.vm) (hn : gN u) : gN U := fun q hq => (hn q hq).moved h
def mPh (dC : Nat → ClassId) (dI : Nat → Nat → Nat) (cI cJ : ClassId) (ws : va_W) (L : List Nat) (U : State) : Prop := mPt dC dI cI cJ ws L U ∧ gN U
abbrev cH (l : Launch) (y : MethodName) (wl : List Cond) (rm : Room) (dC : Nat → ClassId) (dI : Nat → Nat → Nat) (cI cJ : ClassId) (ws ws' : va_W) (L : List Nat) (av : List Value) (r : Option Value) (mc ms : Nat) : Prop := Met l y wl rm (va_Pc av (mPh dC dI cI cJ ws L)) (mQ dC dI ws' L r) mc ms (mA L)
section KH
variable {p : Program} {l : Launch} {e : Env} {R : Room} {s : State} {m : MethodId} {args : Array Value} {below : List Frame} {meth : Method} {c : Code} {H : Heap} {locs : List Loc} {cells slots : Nat} {Q : State → Prop}
variable {dC : Nat → ClassId} {dI : Nat → Nat → Nat} {cI cJ : ClassId} {ws ws' wc wc' : va_W} {A : Nat → Prop} {pc : Nat} {ls : Array Slot} {rest st0 : List Value} {av : List Value} {L Lc : List Nat}
/-- a long written, at place 0 -/
theorem k_last {cc : ByteArray} (hexec : p.tables.exec = Jvm.exec) (hb : c.code = cc) {a : Nat} (hK : gK dC dI cI cJ s) (hP : va_P (dC, dI) vwCl ws H) (hD : va_D A ws) (hS : va_S A s.heap H locs) (q0 : Nat) {f : Nat → Int64} (ha : ws[q0]? = some (a, .inl (cJ, 1, .inr (.inl f)))) {x : Int64} (hdg : decode cc pc = .ok (.lastore, 1)) (hset : ws.set q0 (a, .inl (cJ, 1, .inr (.inl (vp_updL f 0 x)))) = ws')
    (kk : ∀ (H1 : Heap) (locs1 : List Loc), va_P (dC, dI) vwCl ws' H1 → va_D A ws' → va_S A s.heap H1 locs1 → W p l e R s m args below meth c H1 locs1 cells slots Q (F0 m (pc + 1) ls rest)) : W p l e R s m args below meth c H locs cells slots Q (F0 m pc ls (.long x :: .int 0 :: .ref a :: rest)) := by
  subst hset
  exact va_last hexec hb hK.1 hP hD hS q0 1 ha rfl (i := 0) (vp_in_nI (n := 0) (N := 1) (by decide) (by decide)) hdg kk
theorem k_lald {cc : ByteArray} (hexec : p.tables.exec = Jvm.exec) (hb : c.code = cc) {a : Nat} (hK : gK dC dI cI cJ s) (hP : va_P (dC, dI) vwCl ws H) (q0 : Nat) {f : Nat → Int64} (ha : ws[q0]? = some (a, .inl (cJ, 1, .inr (.inl f)))) (hdg : decode cc pc = .ok (.laload, 1))
    (kk : W p l e R s m args below meth c H locs cells slots Q (F0 m (pc + 1) ls (.long (f 0) :: rest))) : W p l e R s m args below meth c H locs cells slots Q (F0 m pc ls (.int 0 :: .ref a :: rest)) :=
  va_lald hexec hb hK.1 hP q0 1 ha rfl (i := 0) (vp_in_nI (n := 0) (N := 1) (by decide) (by decide)) hdg kk
end KH
theorem goodIn_ext2 {big ws e : List Cond} {w0 : Cond} (h : GoodIn big ws) (he : e.all goodWord = true) : GoodIn (big ++ (w0 :: e)) (ws ++ e) := fun w hw => (List.mem_append.mp hw).elim (fun h1 => ⟨List.mem_append_left _ (h w h1).1, (h w h1).2⟩) (fun h1 => ⟨List.mem_append_right _ (List.mem_cons_of_mem _ h1), good_of_word (List.all_eq_true.mp he w h1)⟩)
def wqL_poke : List Cond := wsL_poke ++ (.classLink RL 37 xAIE :: xaAIE.filter goodWord)
def wqL_byteOf : List Cond := wsL_byteOf ++ (.classLink RL 37 xAIE :: xaAIE.filter goodWord)
theorem gqL_poke_X2_poke : GoodIn wqL_poke (wsV RL 33 RX2 yX2_poke wqX2_poke) := by
  rw [wsV, wqX2_poke, ← List.append_assoc]
  exact goodIn_ext2 gL_poke_X2_poke xaAIE_good
theorem gqL_byteOf_X2_byteOf : GoodIn wqL_byteOf (wsV RL 39 RX2 yX2_byteOf wqX2_byteOf) := by
  rw [wsV, wqX2_byteOf, ← List.append_assoc]
  exact goodIn_ext2 gL_byteOf_X2_byteOf xaAIE_good
theorem xcIAE : Cond.castable xIAE xIAE ∈ gXW := by decide +kernel
theorem xcISE : Cond.castable xISE xISE ∈ gXW := by decide +kernel
theorem xcUOE : Cond.castable xUOE xUOE ∈ gXW := by decide +kernel
theorem xcNSE : Cond.castable xNSE xNSE ∈ gXW := by decide +kernel
theorem xcAIE : Cond.castable xAIE xAIE ∈ gXW := by decide +kernel
