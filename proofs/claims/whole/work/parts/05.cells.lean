/-! CELLS: what each method of Cells answers and leaves, as the code has it -/
abbrev ushr (x y : Int32) : Int32 := (x.toUInt32 >>> (y.toUInt32 &&& Int32.toUInt32 31)).toInt32
abbrev mmax (x y : Int32) : Int32 := if x < y then y else x
abbrev mmin (x y : Int32) : Int32 := if y < x then y else x
def ca_at (N : Nat) (f : Nat → Int32) (i : Int32) : Int32 := if i < 0 then 0 else if nI N ≤ i then 0 else f (i).toNatClampNeg
def ca_set (N : Nat) (f : Nat → Int32) (i v : Int32) : Nat → Int32 := if i < 0 then f else if nI N ≤ i then f else upd f (i).toNatClampNeg v
def ca_copy (N : Nat) (f : Nat → Int32) (M : Nat) (g : Nat → Int32) (first behind : Int32) : Nat → Int32 := loopE behind (fun i (x : Nat → Int32) => (.inl (ca_set N x i (ca_at M g i)) : (Nat → Int32) ⊕ (Nat → Int32))) id first f
def ca_isZero (N : Nat) (f : Nat → Int32) (first : Int32) : Int32 := loopE (nI N) (fun i (_ : Unit) => if ca_at N f i = 0 then (.inl () : Unit ⊕ Int32) else .inr 0) (fun _ => 1) first ()
def ca_num (N : Nat) (f : Nat → Int32) (place bytes : Int32) : Int32 := loopE bytes (fun i (x : Int32) => (.inl ((x <<< ((8 : Int32) &&& 31)) ||| (ca_at N f (place + i))) : Int32 ⊕ Int32)) id 0 0
def ca_setNum (N : Nat) (f : Nat → Int32) (place bytes number : Int32) : Nat → Int32 := loopE bytes (fun i (x : Nat → Int32) => (.inl (ca_set N x (place + i) ((ushr number (8 * ((bytes - 1) - i))) &&& 255)) : (Nat → Int32) ⊕ (Nat → Int32))) id 0 f
theorem k_in {N : Nat} (hN : N < 2 ^ 31) {i : Int32} (h1 : ¬ i < 0) (h2 : ¬ nI N ≤ i) : vp_in i N := by
  rcases pk_ix i hN with h | h | ⟨j, hj, rfl⟩
  · exact absurd h h1
  · exact absurd h h2
  · exact vp_in_nI hj hN
theorem k_meas {i b : Int32} {n : Nat} (h : ¬ b ≤ i) (hm : (b.toInt - i.toInt).toNat < n + 1) : (b.toInt - (i + 1).toInt).toNat < n := Nat.lt_of_lt_of_le (k_dec h) (Nat.le_of_lt_succ hm)
theorem hdn_X0_length : yX0_length.cls ≠ "java/lang/invoke/MethodHandle" ∧ yX0_length.cls ≠ "java/lang/invoke/VarHandle" ∧ (parseMethodDescriptor yX0_length.desc).map (fun d => d.parameters.length) = some 0 := by decide +kernel
theorem hdv_X0_length : yX0_length.cls = RX0 ∧ yX0_length.cls ≠ "java/lang/invoke/MethodHandle" ∧ yX0_length.cls ≠ "java/lang/invoke/VarHandle" ∧ (parseMethodDescriptor yX0_length.desc).map (fun d => d.parameters.length) = some 0 := ⟨rfl, hdn_X0_length⟩
theorem hdn_X0_at : yX0_at.cls ≠ "java/lang/invoke/MethodHandle" ∧ yX0_at.cls ≠ "java/lang/invoke/VarHandle" ∧ (parseMethodDescriptor yX0_at.desc).map (fun d => d.parameters.length) = some 1 := by decide +kernel
theorem hdv_X0_at : yX0_at.cls = RX0 ∧ yX0_at.cls ≠ "java/lang/invoke/MethodHandle" ∧ yX0_at.cls ≠ "java/lang/invoke/VarHandle" ∧ (parseMethodDescriptor yX0_at.desc).map (fun d => d.parameters.length) = some 1 := ⟨rfl, hdn_X0_at⟩
theorem hdn_X0_set : yX0_set.cls ≠ "java/lang/invoke/MethodHandle" ∧ yX0_set.cls ≠ "java/lang/invoke/VarHandle" ∧ (parseMethodDescriptor yX0_set.desc).map (fun d => d.parameters.length) = some 2 := by decide +kernel
theorem hdv_X0_set : yX0_set.cls = RX0 ∧ yX0_set.cls ≠ "java/lang/invoke/MethodHandle" ∧ yX0_set.cls ≠ "java/lang/invoke/VarHandle" ∧ (parseMethodDescriptor yX0_set.desc).map (fun d => d.parameters.length) = some 2 := ⟨rfl, hdn_X0_set⟩
theorem hdn_X0_copy : yX0_copy.cls ≠ "java/lang/invoke/MethodHandle" ∧ yX0_copy.cls ≠ "java/lang/invoke/VarHandle" ∧ (parseMethodDescriptor yX0_copy.desc).map (fun d => d.parameters.length) = some 3 := by decide +kernel
theorem hdv_X0_copy : yX0_copy.cls = RX0 ∧ yX0_copy.cls ≠ "java/lang/invoke/MethodHandle" ∧ yX0_copy.cls ≠ "java/lang/invoke/VarHandle" ∧ (parseMethodDescriptor yX0_copy.desc).map (fun d => d.parameters.length) = some 3 := ⟨rfl, hdn_X0_copy⟩
theorem hdn_X0_isZeroFrom : yX0_isZeroFrom.cls ≠ "java/lang/invoke/MethodHandle" ∧ yX0_isZeroFrom.cls ≠ "java/lang/invoke/VarHandle" ∧ (parseMethodDescriptor yX0_isZeroFrom.desc).map (fun d => d.parameters.length) = some 1 := by decide +kernel
theorem hdv_X0_isZeroFrom : yX0_isZeroFrom.cls = RX0 ∧ yX0_isZeroFrom.cls ≠ "java/lang/invoke/MethodHandle" ∧ yX0_isZeroFrom.cls ≠ "java/lang/invoke/VarHandle" ∧ (parseMethodDescriptor yX0_isZeroFrom.desc).map (fun d => d.parameters.length) = some 1 := ⟨rfl, hdn_X0_isZeroFrom⟩
theorem hdn_X0_numberAt : yX0_numberAt.cls ≠ "java/lang/invoke/MethodHandle" ∧ yX0_numberAt.cls ≠ "java/lang/invoke/VarHandle" ∧ (parseMethodDescriptor yX0_numberAt.desc).map (fun d => d.parameters.length) = some 2 := by decide +kernel
theorem hdv_X0_numberAt : yX0_numberAt.cls = RX0 ∧ yX0_numberAt.cls ≠ "java/lang/invoke/MethodHandle" ∧ yX0_numberAt.cls ≠ "java/lang/invoke/VarHandle" ∧ (parseMethodDescriptor yX0_numberAt.desc).map (fun d => d.parameters.length) = some 2 := ⟨rfl, hdn_X0_numberAt⟩
theorem hdn_X0_setNumber : yX0_setNumber.cls ≠ "java/lang/invoke/MethodHandle" ∧ yX0_setNumber.cls ≠ "java/lang/invoke/VarHandle" ∧ (parseMethodDescriptor yX0_setNumber.desc).map (fun d => d.parameters.length) = some 3 := by decide +kernel
theorem hdv_X0_setNumber : yX0_setNumber.cls = RX0 ∧ yX0_setNumber.cls ≠ "java/lang/invoke/MethodHandle" ∧ yX0_setNumber.cls ≠ "java/lang/invoke/VarHandle" ∧ (parseMethodDescriptor yX0_setNumber.desc).map (fun d => d.parameters.length) = some 3 := ⟨rfl, hdn_X0_setNumber⟩
set_option maxHeartbeats 4000000 in
set_option maxRecDepth 100000 in
theorem m_X0_length (l : Launch) (dC : Nat → ClassId) (dI : Nat → Nat → Nat) (cI cJ : ClassId) (h0 : Nat) (a0 : Nat) (N : Nat) (f : Nat → Int32)  : cP l yX0_length wsX0_length ({ frames := 0, cells := 0, slots := 0, locals := 0 }) dC dI cI cJ [(h0, .inr (1, [.ref a0])), (a0, .inl (cI, N, .inl f))] [.ref h0] (nI N) := by
  refine Met.ofW (cc := cX0_length) (maxL := 1) (ret := (some .int)) (by decide) rfl ?_
  intro p e s m args below meth c s₁ B hml hv
  obtain ⟨rfl, hP, hK⟩ := hv
  have hx := B.exec
  have hb := B.bytes
  have hr := B.returns
  have hts := atoms_spec (ws := wsX0_length) B.pre
  have hown : s.vm.findClass RX0 = some m.cls := findClass_of_methodNamed B.named
  have hlocks := B.notSynchronized
  have inX0 : ∀ w ∈ wsX00, w ∈ wsX0_length := fun w h => (List.mem_cons_of_mem _ (List.mem_append_right _ h))
  have fl15 := hts (.fieldLink RX0 15 "StockLog$Cells" "cells" "[I") (by decide +kernel)
  have hl := lv_entry ([.ref h0]) (n := 1) (Nat.le_of_ble_eq_true rfl)
  rw [lg_entry_eq]
  generalize (lg_sl ([.ref h0]) ++ List.replicate (1 - (lg_sl ([.ref h0])).length) Slot.unset).toArray = ls at hl ⊢
  have hl : lv_has ls 1 [(0, .ref h0)] := hl
  refine lv_aload_n hx hb dX0_length_0 rfl (lv_at hl 0 rfl) ?_
  refine k_get (ci := 1) (T := TX0) (N := 1) (C := RX0) hx hb hts inX0 hown hK hP 0 rfl rfl 0 (by decide) fl15 rfl rfl dX0_length_1 ?_
  refine k_alen hx hb hK hP 1 rfl dX0_length_4 ?_
  exact k_iretP (ret := none) hx hb hr hlocks rfl rfl dX0_length_5
set_option maxHeartbeats 4000000 in
set_option maxRecDepth 100000 in
theorem m_X0_at (l : Launch) (dC : Nat → ClassId) (dI : Nat → Nat → Nat) (cI cJ : ClassId) (h0 : Nat) (a0 : Nat) (N : Nat) (f : Nat → Int32) (i : Int32) (hN : N < 2 ^ 31) : cP l yX0_at wsX0_at ({ frames := 0, cells := 0, slots := 0, locals := 0 }) dC dI cI cJ [(h0, .inr (1, [.ref a0])), (a0, .inl (cI, N, .inl f))] [.ref h0, .int i] (ca_at N f i) := by
  refine Met.ofW (cc := cX0_at) (maxL := 2) (ret := (some .int)) (by decide) rfl ?_
  intro p e s m args below meth c s₁ B hml hv
  obtain ⟨rfl, hP, hK⟩ := hv
  have hx := B.exec
  have hb := B.bytes
  have hr := B.returns
  have hts := atoms_spec (ws := wsX0_at) B.pre
  have hown : s.vm.findClass RX0 = some m.cls := findClass_of_methodNamed B.named
  have hlocks := B.notSynchronized
  have inX0 : ∀ w ∈ wsX00, w ∈ wsX0_at := fun w h => (List.mem_cons_of_mem _ (List.mem_append_right _ h))
  have fl15 := hts (.fieldLink RX0 15 "StockLog$Cells" "cells" "[I") (by decide +kernel)
  have hl := lv_entry ([.ref h0, .int i]) (n := 2) (Nat.le_of_ble_eq_true rfl)
  rw [lg_entry_eq]
  generalize (lg_sl ([.ref h0, .int i]) ++ List.replicate (2 - (lg_sl ([.ref h0, .int i])).length) Slot.unset).toArray = ls at hl ⊢
  have hl : lv_has ls 2 [(0, .ref h0), (1, .int i)] := hl
  refine lv_iload_n hx hb dX0_at_0 rfl (lv_at hl 1 rfl) ?_
  refine lv_if_lt (tgt := 22) hx hb dX0_at_1 (by decide) (fun c1 => ?_) (fun c1 => ?_)
  · refine lv_iconst (v := 0) hx hb dX0_at_22 (by decide) ?_
    exact k_iretP (ret := none) hx hb hr hlocks (by simp only [ca_at, if_pos c1]) rfl dX0_at_23
  · refine lv_iload_n hx hb dX0_at_4 rfl (lv_at hl 1 rfl) ?_
    refine lv_aload_n hx hb dX0_at_5 rfl (lv_at hl 0 rfl) ?_
    refine k_get (ci := 1) (T := TX0) (N := 1) (C := RX0) hx hb hts inX0 hown hK hP 0 rfl rfl 0 (by decide) fl15 rfl rfl dX0_at_6 ?_
    refine k_alen hx hb hK hP 1 rfl dX0_at_9 ?_
    refine lv_icmp_ge (tgt := 22) hx hb dX0_at_10 (by decide) (fun c2 => ?_) (fun c2 => ?_)
    · refine lv_iconst (v := 0) hx hb dX0_at_22 (by decide) ?_
      exact k_iretP (ret := none) hx hb hr hlocks (by simp only [ca_at, if_neg c1, if_pos c2]) rfl dX0_at_23
    · refine lv_aload_n hx hb dX0_at_13 rfl (lv_at hl 0 rfl) ?_
      refine k_get (ci := 1) (T := TX0) (N := 1) (C := RX0) hx hb hts inX0 hown hK hP 0 rfl rfl 0 (by decide) fl15 rfl rfl dX0_at_14 ?_
      refine lv_iload_n hx hb dX0_at_17 rfl (lv_at hl 1 rfl) ?_
      refine k_iald hx hb hK hP 1 rfl (k_in hN c1 c2) dX0_at_18 ?_
      refine lv_goto (tgt := 23) hx hb dX0_at_19 (by decide) ?_
      exact k_iretP (ret := none) hx hb hr hlocks (by simp only [ca_at, if_neg c1, if_neg c2]) rfl dX0_at_23
set_option maxHeartbeats 4000000 in
set_option maxRecDepth 100000 in
theorem m_X0_set (l : Launch) (dC : Nat → ClassId) (dI : Nat → Nat → Nat) (cI cJ : ClassId) (h0 : Nat) (a0 : Nat) (N : Nat) (f : Nat → Int32) (i : Int32) (v : Int32) (hN : N < 2 ^ 31) : cW l yX0_set wsX0_set ({ frames := 0, cells := 0, slots := 0, locals := 0 }) dC dI cI cJ [(h0, .inr (1, [.ref a0])), (a0, .inl (cI, N, .inl f))] [(h0, .inr (1, [.ref a0])), (a0, .inl (cI, N, .inl (ca_set N f i v)))] [h0, a0] [.ref h0, .int i, .int v] none := by
  refine Met.ofW (cc := cX0_set) (maxL := 3) (ret := none) (by decide) rfl ?_
  intro p e s m args below meth c s₁ B hml hv
  obtain ⟨rfl, hP, hK, hD0⟩ := hv
  have hx := B.exec
  have hb := B.bytes
  have hr := B.returns
  have hts := atoms_spec (ws := wsX0_set) B.pre
  have hown : s.vm.findClass RX0 = some m.cls := findClass_of_methodNamed B.named
  have hlocks := B.notSynchronized
  have inX0 : ∀ w ∈ wsX00, w ∈ wsX0_set := fun w h => (List.mem_cons_of_mem _ (List.mem_append_right _ h))
  have fl15 := hts (.fieldLink RX0 15 "StockLog$Cells" "cells" "[I") (by decide +kernel)
  have hD : va_D (mA [h0, a0]) [(h0, .inr (1, [.ref a0])), (a0, .inl (cI, N, .inl f))] := k_Dw hD0 rfl
  have hS : va_S (mA [h0, a0]) s.heap s.heap [] := va_S.rf
  have hl := lv_entry ([.ref h0, .int i, .int v]) (n := 3) (Nat.le_of_ble_eq_true rfl)
  rw [lg_entry_eq]
  generalize (lg_sl ([.ref h0, .int i, .int v]) ++ List.replicate (3 - (lg_sl ([.ref h0, .int i, .int v])).length) Slot.unset).toArray = ls at hl ⊢
  have hl : lv_has ls 3 [(0, .ref h0), (1, .int i), (2, .int v)] := hl
  refine lv_iload_n hx hb dX0_set_0 rfl (lv_at hl 1 rfl) ?_
  refine lv_if_lt (tgt := 20) hx hb dX0_set_1 (by decide) (fun c1 => ?_) (fun c1 => ?_)
  · exact k_vretW hx hb hr hlocks hP hS (by simp only [ca_set, if_pos c1]) dX0_set_20
  · refine lv_iload_n hx hb dX0_set_4 rfl (lv_at hl 1 rfl) ?_
    refine lv_aload_n hx hb dX0_set_5 rfl (lv_at hl 0 rfl) ?_
    refine k_get (ci := 1) (T := TX0) (N := 1) (C := RX0) hx hb hts inX0 hown hK hP 0 rfl rfl 0 (by decide) fl15 rfl rfl dX0_set_6 ?_
    refine k_alen hx hb hK hP 1 rfl dX0_set_9 ?_
    refine lv_icmp_ge (tgt := 20) hx hb dX0_set_10 (by decide) (fun c2 => ?_) (fun c2 => ?_)
    · exact k_vretW hx hb hr hlocks hP hS (by simp only [ca_set, if_neg c1, if_pos c2]) dX0_set_20
    · refine lv_aload_n hx hb dX0_set_13 rfl (lv_at hl 0 rfl) ?_
      refine k_get (ci := 1) (T := TX0) (N := 1) (C := RX0) hx hb hts inX0 hown hK hP 0 rfl rfl 0 (by decide) fl15 rfl rfl dX0_set_14 ?_
      refine lv_iload_n hx hb dX0_set_17 rfl (lv_at hl 1 rfl) ?_
      refine lv_iload_n hx hb dX0_set_18 rfl (lv_at hl 2 rfl) ?_
      refine k_iast (ws' := [(h0, .inr (1, [.ref a0])), (a0, .inl (cI, N, .inl (upd f (i).toNatClampNeg v)))]) hx hb hK hP hD hS 1 rfl (k_in hN c1 c2) dX0_set_19 rfl (fun H locs hP hD hS => ?_)
      exact k_vretW hx hb hr hlocks hP hS (by simp only [ca_set, if_neg c1, if_neg c2]) dX0_set_20
set_option maxHeartbeats 4000000 in
set_option maxRecDepth 100000 in
theorem m_X0_copy (l : Launch) (dC : Nat → ClassId) (dI : Nat → Nat → Nat) (cI cJ : ClassId) (h0 : Nat) (a0 : Nat) (N : Nat) (f : Nat → Int32) (h1 : Nat) (a1 : Nat) (M : Nat) (g : Nat → Int32) (first : Int32) (behind : Int32) (hN : N < 2 ^ 31) (hM : M < 2 ^ 31) : cW l yX0_copy wsX0_copy ({ frames := 1, cells := 0, slots := 0, locals := 22 }) dC dI cI cJ [(h0, .inr (1, [.ref a0])), (a0, .inl (cI, N, .inl f)), (h1, .inr (1, [.ref a1])), (a1, .inl (cI, M, .inl g))] [(h0, .inr (1, [.ref a0])), (a0, .inl (cI, N, .inl (ca_copy N f M g first behind))), (h1, .inr (1, [.ref a1])), (a1, .inl (cI, M, .inl g))] [h0, a0, h1, a1] [.ref h0, .ref h1, .int first, .int behind] none := by
  refine Met.ofW (cc := cX0_copy) (maxL := 5) (ret := none) (by decide) rfl ?_
  intro p e s m args below meth c s₁ B hml hv
  obtain ⟨rfl, hP, hK, hD0⟩ := hv
  have hx := B.exec
  have hb := B.bytes
  have hr := B.returns
  have hts := atoms_spec (ws := wsX0_copy) B.pre
  have hown : s.vm.findClass RX0 = some m.cls := findClass_of_methodNamed B.named
  have hlocks := B.notSynchronized
  have hD : va_D (mA [h0, a0, h1, a1]) [(h0, .inr (1, [.ref a0])), (a0, .inl (cI, N, .inl f)), (h1, .inr (1, [.ref a1])), (a1, .inl (cI, M, .inl g))] := k_Dw hD0 rfl
  have hS : va_S (mA [h0, a0, h1, a1]) s.heap s.heap [] := va_S.rf
  have hl := lv_entry ([.ref h0, .ref h1, .int first, .int behind]) (n := 5) (Nat.le_of_ble_eq_true rfl)
  rw [lg_entry_eq]
  generalize (lg_sl ([.ref h0, .ref h1, .int first, .int behind]) ++ List.replicate (5 - (lg_sl ([.ref h0, .ref h1, .int first, .int behind])).length) Slot.unset).toArray = ls at hl ⊢
  have hl : lv_has ls 5 [(0, .ref h0), (1, .ref h1), (2, .int first), (3, .int behind)] := hl
  refine lv_iload_n hx hb dX0_copy_0 rfl (lv_at hl 2 rfl) ?_
  refine lv_istore (lv' := [(4, .int first), (0, .ref h0), (1, .ref h1), (2, .int first), (3, .int behind)]) hx hb dX0_copy_1 hl (by decide) rfl (fun ls hl => ?_)
  have loop3 : ∀ (n : Nat) (i : Int32) (x : Nat → Int32) (H : Heap) (locs : List Loc) (ls : Array Slot), (loopE behind (fun i (x : Nat → Int32) => (.inl (ca_set N x i (ca_at M g i)) : (Nat → Int32) ⊕ (Nat → Int32))) id i x = ca_copy N f M g first behind) → (behind.toInt - i.toInt).toNat < n → va_P (dC, dI) vwCl [(h0, .inr (1, [.ref a0])), (a0, .inl (cI, N, .inl x)), (h1, .inr (1, [.ref a1])), (a1, .inl (cI, M, .inl g))] H → va_D (mA [h0, a0, h1, a1]) [(h0, .inr (1, [.ref a0])), (a0, .inl (cI, N, .inl x)), (h1, .inr (1, [.ref a1])), (a1, .inl (cI, M, .inl g))] → va_S (mA [h0, a0, h1, a1]) s.heap H locs → lv_has ls 5 [(4, .int i), (0, .ref h0), (1, .ref h1), (2, .int first), (3, .int behind)] → W p l e (headSpec wsX0_copy ({ frames := 1, cells := 0, slots := 0, locals := 22 })).room s m ([.ref h0, .ref h1, .int first, .int behind] : List Value).toArray below meth c H locs 0 0 (MQ below (mQ dC dI [(h0, .inr (1, [.ref a0])), (a0, .inl (cI, N, .inl (ca_copy N f M g first behind))), (h1, .inr (1, [.ref a1])), (a1, .inl (cI, M, .inl g))] [h0, a0, h1, a1] none) ([.ref h0, .ref h1, .int first, .int behind] : List Value).toArray s 0 0 (mA [h0, a0, h1, a1])) (F0 m 3 ls []) := by
    intro n
    induction n with
    | zero => intro i x H locs ls hi hm; exact absurd hm (Nat.not_lt_zero _)
    | succ n ih =>
      intro i x H locs ls hi hm hP hD hS hl
      refine lv_iload hx hb dX0_copy_3 (lv_at hl 0 rfl) ?_
      refine lv_iload_n hx hb dX0_copy_5 rfl (lv_at hl 4 rfl) ?_
      refine lv_icmp_ge (tgt := 27) hx hb dX0_copy_6 (by decide) (fun c1 => ?_) (fun c1 => ?_)
      · exact k_vretW hx hb hr hlocks hP hS (by rw [← hi, loopE_exit c1]; rfl) dX0_copy_27
      · refine lv_aload_n hx hb dX0_copy_9 rfl (lv_at hl 1 rfl) ?_
        refine lv_iload hx hb dX0_copy_10 (lv_at hl 0 rfl) ?_
        refine lv_aload_n hx hb dX0_copy_12 rfl (lv_at hl 2 rfl) ?_
        refine lv_iload hx hb dX0_copy_13 (lv_at hl 0 rfl) ?_
        refine k_afP (va_runV (rest := [.int i, .ref h0]) ⟨hx, hb, hml, hown, hts⟩ (m_X0_at l dC dI cI cJ h1 a1 M g i (by first | assumption | decide)) (cwV 1 hts gX0_copy_X0_at rfl rfl rfl hdv_X0_at ⟨Nat.le_of_ble_eq_true rfl, Nat.le_of_ble_eq_true rfl⟩) (k_preVP hK hP [2, 3] rfl 2 rfl rfl) rfl rfl hl.1 rfl (lv_room (Nat.le_of_ble_eq_true rfl)) dX0_copy_15 ⟨Nat.le_of_ble_eq_true rfl, Nat.le_of_ble_eq_true rfl⟩) ?_
        refine k_afW (wc := [(h0, .inr (1, [.ref a0])), (a0, .inl (cI, N, .inl x))]) (ws' := [(h0, .inr (1, [.ref a0])), (a0, .inl (cI, N, .inl (ca_set N x i (ca_at M g i)))), (h1, .inr (1, [.ref a1])), (a1, .inl (cI, M, .inl g))]) (va_runV (rest := []) ⟨hx, hb, hml, hown, hts⟩ (m_X0_set l dC dI cI cJ h0 a0 N x i (ca_at M g i) (by first | assumption | decide)) (cwV 2 hts gX0_copy_X0_set rfl rfl rfl hdv_X0_set ⟨Nat.le_of_ble_eq_true rfl, Nat.le_of_ble_eq_true rfl⟩) (k_preVW hK hP hD [0, 1] rfl rfl 0 rfl rfl) rfl rfl hl.1 rfl (lv_room (Nat.le_of_ble_eq_true rfl)) dX0_copy_18 ⟨Nat.le_of_ble_eq_true rfl, Nat.le_of_ble_eq_true rfl⟩) hP hD hS [0, 1] rfl rfl rfl rfl (fun H locs hP hD hS => ?_)
        refine lv_iinc (v := i + 1) (lv' := [(4, .int (i + 1)), (0, .ref h0), (1, .ref h1), (2, .int first), (3, .int behind)]) hx hb dX0_copy_21 hl (k := 0) rfl rfl (by decide) rfl (fun ls hl => ?_)
        refine lv_goto (tgt := 3) hx hb dX0_copy_24 (by decide) ?_
        exact ih (i + 1) (ca_set N x i (ca_at M g i)) _ _ ls (by rw [loopE_go c1 rfl] at hi; exact hi) (k_meas c1 hm) hP hD hS (lv_sub hl [0, 1, 2, 3, 4] rfl)
  exact loop3 _ first f _ _ ls rfl (Nat.lt_succ_self _) hP hD hS (lv_sub hl [0, 1, 2, 3, 4] rfl)
set_option maxHeartbeats 4000000 in
set_option maxRecDepth 100000 in
theorem m_X0_isZeroFrom (l : Launch) (dC : Nat → ClassId) (dI : Nat → Nat → Nat) (cI cJ : ClassId) (h0 : Nat) (a0 : Nat) (N : Nat) (f : Nat → Int32) (first : Int32) (hN : N < 2 ^ 31) : cP l yX0_isZeroFrom wsX0_isZeroFrom ({ frames := 1, cells := 0, slots := 0, locals := 21 }) dC dI cI cJ [(h0, .inr (1, [.ref a0])), (a0, .inl (cI, N, .inl f))] [.ref h0, .int first] (ca_isZero N f first) := by
  refine Met.ofW (cc := cX0_isZeroFrom) (maxL := 3) (ret := (some .boolean)) (by decide) rfl ?_
  intro p e s m args below meth c s₁ B hml hv
  obtain ⟨rfl, hP, hK⟩ := hv
  have hx := B.exec
  have hb := B.bytes
  have hr := B.returns
  have hts := atoms_spec (ws := wsX0_isZeroFrom) B.pre
  have hown : s.vm.findClass RX0 = some m.cls := findClass_of_methodNamed B.named
  have hlocks := B.notSynchronized
  have inX0 : ∀ w ∈ wsX00, w ∈ wsX0_isZeroFrom := fun w h => (List.mem_cons_of_mem _ (List.mem_append_right _ h))
  have fl15 := hts (.fieldLink RX0 15 "StockLog$Cells" "cells" "[I") (by decide +kernel)
  have hl := lv_entry ([.ref h0, .int first]) (n := 3) (Nat.le_of_ble_eq_true rfl)
  rw [lg_entry_eq]
  generalize (lg_sl ([.ref h0, .int first]) ++ List.replicate (3 - (lg_sl ([.ref h0, .int first])).length) Slot.unset).toArray = ls at hl ⊢
  have hl : lv_has ls 3 [(0, .ref h0), (1, .int first)] := hl
  refine lv_iload_n hx hb dX0_isZeroFrom_0 rfl (lv_at hl 1 rfl) ?_
  refine lv_istore_n (lv' := [(2, .int first), (0, .ref h0), (1, .int first)]) hx hb dX0_isZeroFrom_1 rfl hl (by decide) rfl (fun ls hl => ?_)
  have loop2 : ∀ (n : Nat) (i : Int32) (ls : Array Slot), (loopE (nI N) (fun i (_ : Unit) => if ca_at N f i = 0 then (.inl () : Unit ⊕ Int32) else .inr 0) (fun _ => 1) i () = ca_isZero N f first) → ((nI N).toInt - i.toInt).toNat < n → lv_has ls 3 [(2, .int i), (0, .ref h0), (1, .int first)] → W p l e (headSpec wsX0_isZeroFrom ({ frames := 1, cells := 0, slots := 0, locals := 21 })).room s m ([.ref h0, .int first] : List Value).toArray below meth c s.heap [] 0 0 (MQ below (vp_Si (fun x => x = ca_isZero N f first)) ([.ref h0, .int first] : List Value).toArray s 0 0 (fun _ => False)) (F0 m 2 ls []) := by
    intro n
    induction n with
    | zero => intro i ls hi hm; exact absurd hm (Nat.not_lt_zero _)
    | succ n ih =>
      intro i ls hi hm hl
      refine lv_iload_n hx hb dX0_isZeroFrom_2 rfl (lv_at hl 0 rfl) ?_
      refine lv_aload_n hx hb dX0_isZeroFrom_3 rfl (lv_at hl 1 rfl) ?_
      refine k_get (ci := 1) (T := TX0) (N := 1) (C := RX0) hx hb hts inX0 hown hK hP 0 rfl rfl 0 (by decide) fl15 rfl rfl dX0_isZeroFrom_4 ?_
      refine k_alen hx hb hK hP 1 rfl dX0_isZeroFrom_7 ?_
      refine lv_icmp_ge (tgt := 27) hx hb dX0_isZeroFrom_8 (by decide) (fun c1 => ?_) (fun c1 => ?_)
      · refine lv_iconst (v := 1) hx hb dX0_isZeroFrom_27 (by decide) ?_
        exact k_zretP (ret := none) hx hb hr hlocks (by rw [← hi, loopE_exit c1]) (Or.inr rfl) rfl dX0_isZeroFrom_28
      · refine lv_aload_n hx hb dX0_isZeroFrom_11 rfl (lv_at hl 1 rfl) ?_
        refine lv_iload_n hx hb dX0_isZeroFrom_12 rfl (lv_at hl 0 rfl) ?_
        refine k_afP (va_runV (rest := []) ⟨hx, hb, hml, hown, hts⟩ (m_X0_at l dC dI cI cJ h0 a0 N f i (by first | assumption | decide)) (cwV 1 hts gX0_isZeroFrom_X0_at rfl rfl rfl hdv_X0_at ⟨Nat.le_of_ble_eq_true rfl, Nat.le_of_ble_eq_true rfl⟩) (k_preVP hK hP [0, 1] rfl 0 rfl rfl) rfl rfl hl.1 rfl (lv_room (Nat.le_of_ble_eq_true rfl)) dX0_isZeroFrom_13 ⟨Nat.le_of_ble_eq_true rfl, Nat.le_of_ble_eq_true rfl⟩) ?_
        refine lv_if_eq (tgt := 21) hx hb dX0_isZeroFrom_16 (by decide) (fun c2 => ?_) (fun c2 => ?_)
        · refine lv_iinc (v := i + 1) (lv' := [(2, .int (i + 1)), (0, .ref h0), (1, .int first)]) hx hb dX0_isZeroFrom_21 hl (k := 0) rfl rfl (by decide) rfl (fun ls hl => ?_)
          refine lv_goto (tgt := 2) hx hb dX0_isZeroFrom_24 (by decide) ?_
          exact ih (i + 1) ls (by rw [loopE_go c1 (if_pos c2)] at hi; exact hi) (k_meas c1 hm) (lv_sub hl [0, 1, 2] rfl)
        · refine lv_iconst (v := 0) hx hb dX0_isZeroFrom_19 (by decide) ?_
          exact k_zretP (ret := none) hx hb hr hlocks (by rw [← hi, loopE_ret c1 (if_neg c2)]) (Or.inl rfl) rfl dX0_isZeroFrom_20
  exact loop2 _ first ls rfl (Nat.lt_succ_self _) (lv_sub hl [0, 1, 2] rfl)
set_option maxHeartbeats 4000000 in
set_option maxRecDepth 100000 in
theorem m_X0_numberAt (l : Launch) (dC : Nat → ClassId) (dI : Nat → Nat → Nat) (cI cJ : ClassId) (h0 : Nat) (a0 : Nat) (N : Nat) (f : Nat → Int32) (place : Int32) (bytes : Int32) (hN : N < 2 ^ 31) : cP l yX0_numberAt wsX0_numberAt ({ frames := 1, cells := 0, slots := 0, locals := 21 }) dC dI cI cJ [(h0, .inr (1, [.ref a0])), (a0, .inl (cI, N, .inl f))] [.ref h0, .int place, .int bytes] (ca_num N f place bytes) := by
  refine Met.ofW (cc := cX0_numberAt) (maxL := 5) (ret := (some .int)) (by decide) rfl ?_
  intro p e s m args below meth c s₁ B hml hv
  obtain ⟨rfl, hP, hK⟩ := hv
  have hx := B.exec
  have hb := B.bytes
  have hr := B.returns
  have hts := atoms_spec (ws := wsX0_numberAt) B.pre
  have hown : s.vm.findClass RX0 = some m.cls := findClass_of_methodNamed B.named
  have hlocks := B.notSynchronized
  have hl := lv_entry ([.ref h0, .int place, .int bytes]) (n := 5) (Nat.le_of_ble_eq_true rfl)
  rw [lg_entry_eq]
  generalize (lg_sl ([.ref h0, .int place, .int bytes]) ++ List.replicate (5 - (lg_sl ([.ref h0, .int place, .int bytes])).length) Slot.unset).toArray = ls at hl ⊢
  have hl : lv_has ls 5 [(0, .ref h0), (1, .int place), (2, .int bytes)] := hl
  refine lv_iconst (v := 0) hx hb dX0_numberAt_0 (by decide) ?_
  refine lv_istore_n (lv' := [(3, .int 0), (0, .ref h0), (1, .int place), (2, .int bytes)]) hx hb dX0_numberAt_1 rfl hl (by decide) rfl (fun ls hl => ?_)
  refine lv_iconst (v := 0) hx hb dX0_numberAt_2 (by decide) ?_
  refine lv_istore (lv' := [(4, .int 0), (3, .int 0), (0, .ref h0), (1, .int place), (2, .int bytes)]) hx hb dX0_numberAt_3 hl (by decide) rfl (fun ls hl => ?_)
  have loop5 : ∀ (n : Nat) (i : Int32) (x : Int32) (ls : Array Slot), (loopE bytes (fun i (x : Int32) => (.inl ((x <<< ((8 : Int32) &&& 31)) ||| (ca_at N f (place + i))) : Int32 ⊕ Int32)) id i x = ca_num N f place bytes) → (bytes.toInt - i.toInt).toNat < n → lv_has ls 5 [(4, .int i), (3, .int x), (0, .ref h0), (1, .int place), (2, .int bytes)] → W p l e (headSpec wsX0_numberAt ({ frames := 1, cells := 0, slots := 0, locals := 21 })).room s m ([.ref h0, .int place, .int bytes] : List Value).toArray below meth c s.heap [] 0 0 (MQ below (vp_Si (fun x => x = ca_num N f place bytes)) ([.ref h0, .int place, .int bytes] : List Value).toArray s 0 0 (fun _ => False)) (F0 m 5 ls []) := by
    intro n
    induction n with
    | zero => intro i x ls hi hm; exact absurd hm (Nat.not_lt_zero _)
    | succ n ih =>
      intro i x ls hi hm hl
      refine lv_iload hx hb dX0_numberAt_5 (lv_at hl 0 rfl) ?_
      refine lv_iload_n hx hb dX0_numberAt_7 rfl (lv_at hl 4 rfl) ?_
      refine lv_icmp_ge (tgt := 31) hx hb dX0_numberAt_8 (by decide) (fun c1 => ?_) (fun c1 => ?_)
      · refine lv_iload_n hx hb dX0_numberAt_31 rfl (lv_at hl 1 rfl) ?_
        exact k_iretP (ret := none) hx hb hr hlocks (by rw [← hi, loopE_exit c1]; rfl) rfl dX0_numberAt_32
      · refine lv_iload_n hx hb dX0_numberAt_11 rfl (lv_at hl 1 rfl) ?_
        refine lv_bipush (v := 8) hx hb dX0_numberAt_12 (by decide) ?_
        refine lv_ishl hx hb dX0_numberAt_14 ?_
        refine lv_aload_n hx hb dX0_numberAt_15 rfl (lv_at hl 2 rfl) ?_
        refine lv_iload_n hx hb dX0_numberAt_16 rfl (lv_at hl 3 rfl) ?_
        refine lv_iload hx hb dX0_numberAt_17 (lv_at hl 0 rfl) ?_
        refine lv_iadd hx hb dX0_numberAt_19 ?_
        refine k_afP (va_runV (rest := [.int (x <<< (8 &&& 31))]) ⟨hx, hb, hml, hown, hts⟩ (m_X0_at l dC dI cI cJ h0 a0 N f (place + i) (by first | assumption | decide)) (cwV 1 hts gX0_numberAt_X0_at rfl rfl rfl hdv_X0_at ⟨Nat.le_of_ble_eq_true rfl, Nat.le_of_ble_eq_true rfl⟩) (k_preVP hK hP [0, 1] rfl 0 rfl rfl) rfl rfl hl.1 rfl (lv_room (Nat.le_of_ble_eq_true rfl)) dX0_numberAt_20 ⟨Nat.le_of_ble_eq_true rfl, Nat.le_of_ble_eq_true rfl⟩) ?_
        refine lv_ior hx hb dX0_numberAt_23 ?_
        refine lv_topi (fun v24 ev24 => ?_)
        refine lv_istore_n (lv' := [(3, .int v24), (4, .int i), (0, .ref h0), (1, .int place), (2, .int bytes)]) hx hb dX0_numberAt_24 rfl hl (by decide) rfl (fun ls hl => ?_)
        refine lv_iinc (v := i + 1) (lv' := [(4, .int (i + 1)), (3, .int v24), (0, .ref h0), (1, .int place), (2, .int bytes)]) hx hb dX0_numberAt_25 hl (k := 1) rfl rfl (by decide) rfl (fun ls hl => ?_)
        refine lv_goto (tgt := 5) hx hb dX0_numberAt_28 (by decide) ?_
        exact ih (i + 1) v24 ls (by rw [loopE_go c1 rfl] at hi; rw [ev24]; exact hi) (k_meas c1 hm) (lv_sub hl [0, 1, 2, 3, 4] rfl)
  exact loop5 _ 0 0 ls rfl (Nat.lt_succ_self _) (lv_sub hl [0, 1, 2, 3, 4] rfl)
set_option maxHeartbeats 4000000 in
set_option maxRecDepth 100000 in
theorem m_X0_setNumber (l : Launch) (dC : Nat → ClassId) (dI : Nat → Nat → Nat) (cI cJ : ClassId) (h0 : Nat) (a0 : Nat) (N : Nat) (f : Nat → Int32) (place : Int32) (bytes : Int32) (number : Int32) (hN : N < 2 ^ 31) : cW l yX0_setNumber wsX0_setNumber ({ frames := 1, cells := 0, slots := 0, locals := 22 }) dC dI cI cJ [(h0, .inr (1, [.ref a0])), (a0, .inl (cI, N, .inl f))] [(h0, .inr (1, [.ref a0])), (a0, .inl (cI, N, .inl (ca_setNum N f place bytes number)))] [h0, a0] [.ref h0, .int place, .int bytes, .int number] none := by
  refine Met.ofW (cc := cX0_setNumber) (maxL := 6) (ret := none) (by decide) rfl ?_
  intro p e s m args below meth c s₁ B hml hv
  obtain ⟨rfl, hP, hK, hD0⟩ := hv
  have hx := B.exec
  have hb := B.bytes
  have hr := B.returns
  have hts := atoms_spec (ws := wsX0_setNumber) B.pre
  have hown : s.vm.findClass RX0 = some m.cls := findClass_of_methodNamed B.named
  have hlocks := B.notSynchronized
  have hD : va_D (mA [h0, a0]) [(h0, .inr (1, [.ref a0])), (a0, .inl (cI, N, .inl f))] := k_Dw hD0 rfl
  have hS : va_S (mA [h0, a0]) s.heap s.heap [] := va_S.rf
  have hl := lv_entry ([.ref h0, .int place, .int bytes, .int number]) (n := 6) (Nat.le_of_ble_eq_true rfl)
  rw [lg_entry_eq]
  generalize (lg_sl ([.ref h0, .int place, .int bytes, .int number]) ++ List.replicate (6 - (lg_sl ([.ref h0, .int place, .int bytes, .int number])).length) Slot.unset).toArray = ls at hl ⊢
  have hl : lv_has ls 6 [(0, .ref h0), (1, .int place), (2, .int bytes), (3, .int number)] := hl
  refine lv_iconst (v := 0) hx hb dX0_setNumber_0 (by decide) ?_
  refine lv_istore (lv' := [(4, .int 0), (0, .ref h0), (1, .int place), (2, .int bytes), (3, .int number)]) hx hb dX0_setNumber_1 hl (by decide) rfl (fun ls hl => ?_)
  have loop3 : ∀ (n : Nat) (i : Int32) (x : Nat → Int32) (H : Heap) (locs : List Loc) (ls : Array Slot), (loopE bytes (fun i (x : Nat → Int32) => (.inl (ca_set N x (place + i) ((ushr number (8 * ((bytes - 1) - i))) &&& 255)) : (Nat → Int32) ⊕ (Nat → Int32))) id i x = ca_setNum N f place bytes number) → (bytes.toInt - i.toInt).toNat < n → va_P (dC, dI) vwCl [(h0, .inr (1, [.ref a0])), (a0, .inl (cI, N, .inl x))] H → va_D (mA [h0, a0]) [(h0, .inr (1, [.ref a0])), (a0, .inl (cI, N, .inl x))] → va_S (mA [h0, a0]) s.heap H locs → lv_has ls 6 [(4, .int i), (0, .ref h0), (1, .int place), (2, .int bytes), (3, .int number)] → W p l e (headSpec wsX0_setNumber ({ frames := 1, cells := 0, slots := 0, locals := 22 })).room s m ([.ref h0, .int place, .int bytes, .int number] : List Value).toArray below meth c H locs 0 0 (MQ below (mQ dC dI [(h0, .inr (1, [.ref a0])), (a0, .inl (cI, N, .inl (ca_setNum N f place bytes number)))] [h0, a0] none) ([.ref h0, .int place, .int bytes, .int number] : List Value).toArray s 0 0 (mA [h0, a0])) (F0 m 3 ls []) := by
    intro n
    induction n with
    | zero => intro i x H locs ls hi hm; exact absurd hm (Nat.not_lt_zero _)
    | succ n ih =>
      intro i x H locs ls hi hm hP hD hS hl
      refine lv_iload hx hb dX0_setNumber_3 (lv_at hl 0 rfl) ?_
      refine lv_iload_n hx hb dX0_setNumber_5 rfl (lv_at hl 3 rfl) ?_
      refine lv_icmp_ge (tgt := 42) hx hb dX0_setNumber_6 (by decide) (fun c1 => ?_) (fun c1 => ?_)
      · exact k_vretW hx hb hr hlocks hP hS (by rw [← hi, loopE_exit c1]; rfl) dX0_setNumber_42
      · refine lv_bipush (v := 8) hx hb dX0_setNumber_9 (by decide) ?_
        refine lv_iload_n hx hb dX0_setNumber_11 rfl (lv_at hl 3 rfl) ?_
        refine lv_iconst (v := 1) hx hb dX0_setNumber_12 (by decide) ?_
        refine lv_isub hx hb dX0_setNumber_13 ?_
        refine lv_iload hx hb dX0_setNumber_14 (lv_at hl 0 rfl) ?_
        refine lv_isub hx hb dX0_setNumber_16 ?_
        refine lv_imul hx hb dX0_setNumber_17 ?_
        refine lv_istore (lv' := [(5, .int (8 * ((bytes - 1) - i))), (4, .int i), (0, .ref h0), (1, .int place), (2, .int bytes), (3, .int number)]) hx hb dX0_setNumber_18 hl (by decide) rfl (fun ls hl => ?_)
        refine lv_aload_n hx hb dX0_setNumber_20 rfl (lv_at hl 2 rfl) ?_
        refine lv_iload_n hx hb dX0_setNumber_21 rfl (lv_at hl 3 rfl) ?_
        refine lv_iload hx hb dX0_setNumber_22 (lv_at hl 1 rfl) ?_
        refine lv_iadd hx hb dX0_setNumber_24 ?_
        refine lv_iload_n hx hb dX0_setNumber_25 rfl (lv_at hl 5 rfl) ?_
        refine lv_iload hx hb dX0_setNumber_26 (lv_at hl 0 rfl) ?_
        refine lv_iushr (v := ushr number (8 * ((bytes - 1) - i))) hx hb dX0_setNumber_28 rfl ?_
        refine lv_sipush (v := 255) hx hb dX0_setNumber_29 (by decide) ?_
        refine lv_iand hx hb dX0_setNumber_32 ?_
        refine k_afW (wc := [(h0, .inr (1, [.ref a0])), (a0, .inl (cI, N, .inl x))]) (ws' := [(h0, .inr (1, [.ref a0])), (a0, .inl (cI, N, .inl (ca_set N x (place + i) ((ushr number (8 * ((bytes - 1) - i))) &&& 255))))]) (va_runV (rest := []) ⟨hx, hb, hml, hown, hts⟩ (m_X0_set l dC dI cI cJ h0 a0 N x (place + i) ((ushr number (8 * ((bytes - 1) - i))) &&& 255) (by first | assumption | decide)) (cwV 2 hts gX0_setNumber_X0_set rfl rfl rfl hdv_X0_set ⟨Nat.le_of_ble_eq_true rfl, Nat.le_of_ble_eq_true rfl⟩) (k_preVW hK hP hD [0, 1] rfl rfl 0 rfl rfl) rfl rfl hl.1 rfl (lv_room (Nat.le_of_ble_eq_true rfl)) dX0_setNumber_33 ⟨Nat.le_of_ble_eq_true rfl, Nat.le_of_ble_eq_true rfl⟩) hP hD hS [0, 1] rfl rfl rfl rfl (fun H locs hP hD hS => ?_)
        refine lv_iinc (v := i + 1) (lv' := [(4, .int (i + 1)), (5, .int (8 * ((bytes - 1) - i))), (0, .ref h0), (1, .int place), (2, .int bytes), (3, .int number)]) hx hb dX0_setNumber_36 hl (k := 1) rfl rfl (by decide) rfl (fun ls hl => ?_)
        refine lv_goto (tgt := 3) hx hb dX0_setNumber_39 (by decide) ?_
        exact ih (i + 1) (ca_set N x (place + i) ((ushr number (8 * ((bytes - 1) - i))) &&& 255)) _ _ ls (by rw [loopE_go c1 rfl] at hi; exact hi) (k_meas c1 hm) hP hD hS (lv_sub hl [0, 2, 3, 4, 5] rfl)
  exact loop3 _ 0 f _ _ ls rfl (Nat.lt_succ_self _) hP hD hS (lv_sub hl [0, 1, 2, 3, 4] rfl)
