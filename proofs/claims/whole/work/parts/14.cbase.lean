/-! CONSTRUCTORS: what is made comes behind the world -/
def cQ (dC : Nat → ClassId) (dI : Nat → Nat → Nat) (Qn : va_W → Prop) (wc : va_W) (sz : Nat) : Array Value → State → Outcome → State → Prop := fun _ st o t => o = .returned none ∧ (∃ w1 : va_W, Qn w1 ∧ va_P (dC, dI) vwCl w1 t.heap ∧ va_D (va_A wc sz) w1) ∧ va_F (va_A wc sz) st t
def mPc (dC : Nat → ClassId) (dI : Nat → Nat → Nat) (cI cJ : ClassId) (wc : va_W) (sz : Nat) (U : State) : Prop := U.heap.size = sz ∧ va_P (dC, dI) vwCl wc U.heap ∧ gK dC dI cI cJ U ∧ va_D (fun _ => True) wc
abbrev cC (l : Launch) (y : MethodName) (wl : List Cond) (rm : Room) (dC : Nat → ClassId) (dI : Nat → Nat → Nat) (cI cJ : ClassId) (wc : va_W) (sz : Nat) (av : List Value) (Qn : va_W → Prop) (mc ms : Nat) : Prop := Met l y wl rm (va_Pc av (mPc dC dI cI cJ wc sz)) (cQ dC dI Qn wc sz) mc ms (va_A wc sz)
section KC
variable {p : Program} {l : Launch} {e : Env} {R : Room} {s : State} {m : MethodId} {args : Array Value} {below : List Frame} {meth : Method} {c : Code} {H : Heap} {locs : List Loc} {cells slots : Nat} {Q : State → Prop}
variable {dC : Nat → ClassId} {dI : Nat → Nat → Nat} {cI cJ : ClassId} {ws ws' wc wr : va_W} {A : Nat → Prop} {pc : Nat} {ls : Array Slot} {rest st0 : List Value} {av : List Value} {sz mc ms : Nat} {Qn : va_W → Prop}
theorem k_blC : FrameBlind (va_Pc av (mPc dC dI cI cJ wc sz)) := fun _ _ _ _ q => ⟨q.1, q.2.1, q.2.2.1, q.2.2.2.1.call, q.2.2.2.2⟩
theorem k_preC {As : List Value} (hK : gK dC dI cI cJ s) (hP : va_P (dC, dI) vwCl ws H) (hD : va_D A ws) (is : List Nat) (hn : va_nd is = true) (hs : is.map (fun i => ws[i]?) = wc.map some) : PreS s H (va_Pc As (mPc dC dI cI cJ wc H.size)) As :=
  ⟨k_blC, fun U hU hW => ⟨rfl, by rw [hU], by rw [hU]; exact k_subP hP hs, hK.warm hW, (hD.sub is hn hs).weaken (fun _ _ _ _ => trivial)⟩⟩
theorem k_afC {a : Array Value} (hr : va_Run p l e R s m args below meth c H locs cells slots mc ms (F0 m pc ls st0) rest (cQ dC dI Qn wc H.size a) (va_A wc H.size))
    (hP : va_P (dC, dI) vwCl ws H) (hD : va_D A ws) (hS : va_S A s.heap H locs) (hA : ∀ q, s.heap.size ≤ q → A q) (isC isR : List Nat) (hC : isC.map (fun i => ws[i]?) = wc.map some) (hR : isR.map (fun i => ws[i]?) = wr.map some) (hn : va_nd isR = true) (hdis : ∀ i ∈ isR, i ∉ isC)
    (kk : ∀ (w1 : va_W) (H1 : Heap) (locs1 : List Loc), Qn w1 → va_P (dC, dI) vwCl (wr ++ w1) H1 → va_D A (wr ++ w1) → va_S A s.heap H1 locs1 → W p l e R s m args below meth c H1 locs1 (cells + mc) (slots + ms) Q (F0 m (pc + 3) ls rest)) : W p l e R s m args below meth c H locs cells slots Q (F0 m pc ls st0) := by
  intro T hT X
  obtain ⟨v, st₀, t, T', Lo, h0, X', hLo, e1, -, ⟨hv, ⟨w1, hq, hP1, hD1⟩, hz, hk⟩, st⟩ := hr T hT X
  cases hv
  rw [h0] at hz hk
  have hF := va_free hD hS hA isC hC
  obtain ⟨hPn, hDn⟩ := va_join hP hD isC isR hC hR hn hdis hk hF hP1 hD1
  obtain ⟨t2, a1, b1⟩ := kk w1 T'.heap (locs ++ Lo) hq (by rw [e1]; exact hPn) hDn ⟨Nat.le_trans hS.1 (by rw [e1]; exact hz), fun q h1 h2 => by
      rw [e1, hk q (Nat.lt_of_lt_of_le h1 hS.1) (fun z => h2 (hF q z))]
      exact hS.2.1 q h1 h2, fun q hq => by
      rcases List.mem_append.mp hq with h | h
      · exact hS.2.2 q h
      · exact hF _ (hLo q h)⟩ T' rfl X'
  exact ⟨t2, st t2 a1, b1⟩
theorem k_newa {cc : ByteArray} (hexec : p.tables.exec = Jvm.exec) (hb : c.code = cc) (harr : (Cond.arrayClass .int).before args s = true) (hK : gK dC dI cI cJ s) (hP : va_P (dC, dI) vwCl ws H) (hD : va_D A ws) (hS : va_S A s.heap H locs) (hA : ∀ q, s.heap.size ≤ q → A q)
    {N : Nat} (hN : N ≤ 4096) (hcells : cells + 1 ≤ R.cells) (hslots : slots + N ≤ R.slots) (hdg : decode cc pc = .ok (.newarray .int, 2))
    (kk : ∀ (q : Nat) (H1 : Heap), va_P (dC, dI) vwCl (ws ++ [(q, .inl (cI, N, .inl (fun _ => 0)))]) H1 → va_D A (ws ++ [(q, .inl (cI, N, .inl (fun _ => 0)))]) → va_S A s.heap H1 locs →
      W p l e R s m args below meth c H1 locs (cells + 1) (slots + N) Q (F0 m (pc + 2) ls (.ref q :: rest))) : W p l e R s m args below meth c H locs cells slots Q (F0 m pc ls (.int (nI N) :: rest)) := by
  refine va_newa (atype := .int) (a0 := (N, .inl (fun _ => 0))) hexec hb (show (Cond.arrayClass (newarray.typeOf .int)).before args s = true from harr) (ty := .int) rfl hK.1 hP hD hS hA (fun _ => rfl) (nI_pos (by omega)) (nI_clamp (by omega)) (by show N * 4 ≤ 536870912; omega) hcells hslots hdg (fun q cA H1 hK1 hP1 hD1 hS1 => ?_)
  have e1 : s.vm.findClass ("[" ++ FieldType.int.toString) = some cA := (hK1.2 2 _ rfl).2
  have e2 : s.vm.findClass ("[" ++ FieldType.int.toString) = some cI := (hK.1.2 0 _ rfl).2
  cases Option.some.inj (e1.symm.trans e2)
  exact kk q H1 hP1 hD1 hS1
end KC
theorem mmax0 {N : Nat} (h : N < 2 ^ 31) : mmax 0 (nI N) = nI N := by
  unfold mmax
  by_cases c : (0 : Int32) < nI N
  · rw [if_pos c]
  · rw [if_neg c]
    have h1 : ¬ nI 0 < nI N := c
    have : N = 0 := Nat.eq_zero_of_not_pos (fun q => h1 ((nI_ltI (a := 0) (b := N) (by omega) h).mpr q))
    subst this
    rfl
theorem sec_1 {sec : Int32} {n : Nat} (h : mmax 1 (mmin 64 sec) = nI n) (c : ¬ 1 ≤ sec) : (1 : Int32) = nI n := by
  rw [← h]
  have c2 : sec < 1 := Int32.not_le.mp c
  have c3 : sec < 64 := Int32.lt_trans c2 (by decide)
  unfold mmax mmin
  rw [if_pos c3, if_neg (Int32.not_lt.mpr (Int32.le_of_lt c2))]
theorem sec_64 {sec : Int32} {n : Nat} (h : mmax 1 (mmin 64 sec) = nI n) (c : ¬ sec ≤ 64) : (64 : Int32) = nI n := by
  rw [← h]
  have c2 : (64 : Int32) < sec := Int32.not_le.mp c
  unfold mmax mmin
  rw [if_neg (Int32.not_lt.mpr (Int32.le_of_lt c2)), if_pos (by decide)]
theorem sec_m {sec : Int32} {n : Nat} (h : mmax 1 (mmin 64 sec) = nI n) (c1 : 1 ≤ sec) (c2 : sec ≤ 64) : sec = nI n := by
  rw [← h]
  unfold mmax mmin
  by_cases c3 : sec < 64
  · rw [if_pos c3]
    by_cases c4 : (1 : Int32) < sec
    · rw [if_pos c4]
    · rw [if_neg c4]
      exact Int32.le_antisymm (Int32.not_lt.mp c4) c1
  · rw [if_neg c3, if_pos (by decide)]
    exact Int32.le_antisymm c2 (Int32.not_lt.mp c3)
