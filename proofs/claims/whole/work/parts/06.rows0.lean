/-! ROWS: what each method of Rows answers and leaves -/
theorem k_le1 {b i : Int32} (hb : b < 2147483647) : b < i ↔ b + 1 ≤ i := by
  have h1 : b.toInt < 2147483647 := Int32.lt_iff_toInt_lt.mp hb
  have h3 := b.le_toInt
  have h4 : (b + 1).toInt = b.toInt + 1 := by
    rw [Int32.toInt_add]
    have : (1 : Int32).toInt = 1 := rfl
    rw [this]
    apply Int.bmod_eq_of_le <;> omega
  rw [Int32.lt_iff_toInt_lt, Int32.le_iff_toInt_le, h4]
  omega
theorem k_le1n {b i : Int32} (hb : b < 2147483647) (h : ¬ b < i) : ¬ b + 1 ≤ i := fun q => h ((k_le1 hb).mpr q)
def sl_isKind (k : Int32) : Int32 := if k < 1 then 0 else if 5 < k then 0 else 1
def sl_mix (sum b : Int32) : Int32 := (((sum ^^^ b) <<< ((7 : Int32) &&& 31)) ||| (ushr (sum ^^^ b) 25)) * (-2048144777)
def sl_sum (N : Nat) (f : Nat → Int32) (start length : Int32) : Int32 := loopE ((start + 5) + length) (fun i (x : Int32) => (.inl (sl_mix x (ca_at N f i)) : Int32 ⊕ Int32)) id (start + 1) 1
def rw_kindOf (N K : Nat) (fi fs : Nat → Int32) (number : Int32) : Int32 := ca_at N fi ((ca_at K fs number) + 1)
def rw_lengthOf (N K : Nat) (fi fs : Nat → Int32) (number : Int32) : Int32 := ca_at N fi ((ca_at K fs number) + 4)
def rw_byteAt (N K : Nat) (fi fs : Nat → Int32) (number i : Int32) : Int32 := ca_at N fi (((ca_at K fs number) + 5) + i)
def rw_sumOfBytes (N K : Nat) (fi fs : Nat → Int32) (number : Int32) : Int32 := loopE (rw_lengthOf N K fi fs number) (fun i (x : Int32) => (.inl (x + (rw_byteAt N K fi fs number i)) : Int32 ⊕ Int32)) id 0 0
def rw_nstep (N K : Nat) (fi fs : Nat → Int32) (kind i number before : Int32) : Int32 ⊕ Int32 := if rw_kindOf N K fi fs number = kind then (if before = i then .inr number else .inl (before + 1)) else .inl before
def rw_numberOf (N K : Nat) (fi fs : Nat → Int32) (last kind i : Int32) : Int32 := loopE (last + 1) (fun number (before : Int32) => rw_nstep N K fi fs kind i number before) (fun _ => -1) 1 0
def rw_img (N : Nat) (fi : Nat → Int32) (used last kind length : Int32) : Nat → Int32 := ca_set N (ca_setNum N (ca_set N (ca_set N fi used 90) (used + 1) kind) (used + 2) 2 (last + 1)) (used + 4) length
def rw_body (N : Nat) (f : Nat → Int32) (M : Nat) (g : Nat → Int32) (used length : Int32) : Nat → Int32 := loopE length (fun i (x : Nat → Int32) => (.inl (ca_set N x ((used + 5) + i) (ca_at M g i)) : (Nat → Int32) ⊕ (Nat → Int32))) id 0 f
def rw_tail (N : Nat) (f : Nat → Int32) (used length : Int32) : Nat → Int32 := ca_setNum N f ((used + 5) + length) 4 (sl_sum N f used length)
def rw_image (N : Nat) (fi : Nat → Int32) (used last kind length : Int32) (M : Nat) (g : Nat → Int32) : Nat → Int32 := rw_tail N (rw_body N (rw_img N fi used last kind length) M g used length) used length
def rw_inc (fk : Nat → Int32) (kind : Int32) : Nat → Int32 := ca_set 6 fk kind ((ca_at 6 fk kind) + 1)
def rw_dec (fk : Nat → Int32) (kind : Int32) : Nat → Int32 := ca_set 6 fk kind ((ca_at 6 fk kind) - 1)
/-- enlistNext: starts, ofKind, used -/
def rw_enS (K : Nat) (fs : Nat → Int32) (last used : Int32) : Nat → Int32 := ca_set K fs (last + 1) used
def rw_enK (N K : Nat) (fi fs fk : Nat → Int32) (last used : Int32) : Nat → Int32 := rw_inc fk (rw_kindOf N K fi (rw_enS K fs last used) (last + 1))
def rw_enU (N K : Nat) (fi fs : Nat → Int32) (last used : Int32) : Int32 := used + (9 + (rw_lengthOf N K fi (rw_enS K fs last used) (last + 1)))
def rw_drop (N K : Nat) (fi fs fk : Nat → Int32) (last lod : Int32) : Nat → Int32 := loopE (last + 1) (fun number (x : Nat → Int32) => (.inl (rw_dec x (rw_kindOf N K fi fs number)) : (Nat → Int32) ⊕ (Nat → Int32))) id (lod + 1) fk
def rw_isState (M : Nat) (g fk : Nat → Int32) (place length : Int32) : Int32 := if length = 8 then loopE 5 (fun kind (_ : Unit) => if ca_num M g (place + (2 * (kind - 1))) 2 = ca_at 6 fk kind then (.inl () : Unit ⊕ Int32) else .inr 0) (fun _ => 1) 1 () else 0
def rw_fill (ft fk : Nat → Int32) : Nat → Int32 := loopE 5 (fun kind (x : Nat → Int32) => (.inl (ca_setNum 8 x (2 * (kind - 1)) 2 (ca_at 6 fk kind)) : (Nat → Int32) ⊕ (Nat → Int32))) id 1 ft
def rw_judge (M : Nat) (g fk : Nat → Int32) (last used : Int32) : Int32 :=
  if ca_isZero M g used = 0 then
    if ca_at M g used = 90 then
      if (used + 4) < (nI M) then
        if (sl_isKind (ca_at M g (used + 1))) = 0 then 2 else
          if (ca_num M g (used + 2) 2) = (last + 1) then
            if 20 < (ca_at M g (used + 4)) then 4 else
              if ((used + 9) + (ca_at M g (used + 4))) ≤ (nI M) then
                if (ca_num M g ((used + 5) + (ca_at M g (used + 4))) 4) = (sl_sum M g used (ca_at M g (used + 4))) then
                  if (ca_at M g (used + 1)) = 5 then
                    if (rw_isState M g fk (used + 5) (ca_at M g (used + 4))) = 0 then 6 else (-1)
                  else (-1)
                else 5
              else 4
          else 3
      else 4
    else 1
  else 0
abbrev RS : Type := (Nat → Int32) × (Nat → Int32) × (Nat → Int32) × Int32 × Int32
def rw_cpI (N M : Nat) (fi g : Nat → Int32) (used : Int32) : Nat → Int32 := ca_copy N fi M g used ((used + 9) + (ca_at M g (used + 4)))
def rw_take (N K M : Nat) (g : Nat → Int32) (x : RS) : RS := (rw_cpI N M x.1 g x.2.2.2.2, rw_enS K x.2.1 x.2.2.2.1 x.2.2.2.2, rw_enK N K (rw_cpI N M x.1 g x.2.2.2.2) x.2.1 x.2.2.1 x.2.2.2.1 x.2.2.2.2, x.2.2.2.1 + 1, rw_enU N K (rw_cpI N M x.1 g x.2.2.2.2) x.2.1 x.2.2.2.1 x.2.2.2.2)
def rw_rstep (N K M : Nat) (g : Nat → Int32) (y : RS × Int32) : (RS × Int32) ⊕ (RS × Int32) := if y.2 = (-1) then .inl (rw_take N K M g y.1, rw_judge M g (rw_take N K M g y.1).2.2.1 (rw_take N K M g y.1).2.2.2.1 (rw_take N K M g y.1).2.2.2.2) else .inr y
def rw_read (N K M : Nat) (g : Nat → Int32) (x : RS) : RS × Int32 := loopE (nI M) (fun _ (y : RS × Int32) => rw_rstep N K M g y) id 0 (x, rw_judge M g x.2.2.1 x.2.2.2.1 x.2.2.2.2)
theorem hdn_X1_byteAt : yX1_byteAt.cls ≠ "java/lang/invoke/MethodHandle" ∧ yX1_byteAt.cls ≠ "java/lang/invoke/VarHandle" ∧ (parseMethodDescriptor yX1_byteAt.desc).map (fun d => d.parameters.length) = some 2 := by decide +kernel
theorem hdv_X1_byteAt : yX1_byteAt.cls = RX1 ∧ yX1_byteAt.cls ≠ "java/lang/invoke/MethodHandle" ∧ yX1_byteAt.cls ≠ "java/lang/invoke/VarHandle" ∧ (parseMethodDescriptor yX1_byteAt.desc).map (fun d => d.parameters.length) = some 2 := ⟨rfl, hdn_X1_byteAt⟩
theorem hdn_X1_bytesInMemory : yX1_bytesInMemory.cls ≠ "java/lang/invoke/MethodHandle" ∧ yX1_bytesInMemory.cls ≠ "java/lang/invoke/VarHandle" ∧ (parseMethodDescriptor yX1_bytesInMemory.desc).map (fun d => d.parameters.length) = some 0 := by decide +kernel
theorem hdv_X1_bytesInMemory : yX1_bytesInMemory.cls = RX1 ∧ yX1_bytesInMemory.cls ≠ "java/lang/invoke/MethodHandle" ∧ yX1_bytesInMemory.cls ≠ "java/lang/invoke/VarHandle" ∧ (parseMethodDescriptor yX1_bytesInMemory.desc).map (fun d => d.parameters.length) = some 0 := ⟨rfl, hdn_X1_bytesInMemory⟩
theorem hdn_X1_clear : yX1_clear.cls ≠ "java/lang/invoke/MethodHandle" ∧ yX1_clear.cls ≠ "java/lang/invoke/VarHandle" ∧ (parseMethodDescriptor yX1_clear.desc).map (fun d => d.parameters.length) = some 0 := by decide +kernel
theorem hdv_X1_clear : yX1_clear.cls = RX1 ∧ yX1_clear.cls ≠ "java/lang/invoke/MethodHandle" ∧ yX1_clear.cls ≠ "java/lang/invoke/VarHandle" ∧ (parseMethodDescriptor yX1_clear.desc).map (fun d => d.parameters.length) = some 0 := ⟨rfl, hdn_X1_clear⟩
theorem hdn_X1_dropMemory : yX1_dropMemory.cls ≠ "java/lang/invoke/MethodHandle" ∧ yX1_dropMemory.cls ≠ "java/lang/invoke/VarHandle" ∧ (parseMethodDescriptor yX1_dropMemory.desc).map (fun d => d.parameters.length) = some 0 := by decide +kernel
theorem hdv_X1_dropMemory : yX1_dropMemory.cls = RX1 ∧ yX1_dropMemory.cls ≠ "java/lang/invoke/MethodHandle" ∧ yX1_dropMemory.cls ≠ "java/lang/invoke/VarHandle" ∧ (parseMethodDescriptor yX1_dropMemory.desc).map (fun d => d.parameters.length) = some 0 := ⟨rfl, hdn_X1_dropMemory⟩
theorem hdn_X1_enlistNext : yX1_enlistNext.cls ≠ "java/lang/invoke/MethodHandle" ∧ yX1_enlistNext.cls ≠ "java/lang/invoke/VarHandle" ∧ (parseMethodDescriptor yX1_enlistNext.desc).map (fun d => d.parameters.length) = some 0 := by decide +kernel
theorem hdv_X1_enlistNext : yX1_enlistNext.cls = RX1 ∧ yX1_enlistNext.cls ≠ "java/lang/invoke/MethodHandle" ∧ yX1_enlistNext.cls ≠ "java/lang/invoke/VarHandle" ∧ (parseMethodDescriptor yX1_enlistNext.desc).map (fun d => d.parameters.length) = some 0 := ⟨rfl, hdn_X1_enlistNext⟩
theorem hdn_X1_fillState : yX1_fillState.cls ≠ "java/lang/invoke/MethodHandle" ∧ yX1_fillState.cls ≠ "java/lang/invoke/VarHandle" ∧ (parseMethodDescriptor yX1_fillState.desc).map (fun d => d.parameters.length) = some 0 := by decide +kernel
theorem hdv_X1_fillState : yX1_fillState.cls = RX1 ∧ yX1_fillState.cls ≠ "java/lang/invoke/MethodHandle" ∧ yX1_fillState.cls ≠ "java/lang/invoke/VarHandle" ∧ (parseMethodDescriptor yX1_fillState.desc).map (fun d => d.parameters.length) = some 0 := ⟨rfl, hdn_X1_fillState⟩
theorem hdn_X1_has : yX1_has.cls ≠ "java/lang/invoke/MethodHandle" ∧ yX1_has.cls ≠ "java/lang/invoke/VarHandle" ∧ (parseMethodDescriptor yX1_has.desc).map (fun d => d.parameters.length) = some 1 := by decide +kernel
theorem hdv_X1_has : yX1_has.cls = RX1 ∧ yX1_has.cls ≠ "java/lang/invoke/MethodHandle" ∧ yX1_has.cls ≠ "java/lang/invoke/VarHandle" ∧ (parseMethodDescriptor yX1_has.desc).map (fun d => d.parameters.length) = some 1 := ⟨rfl, hdn_X1_has⟩
theorem hdn_X1_isState : yX1_isState.cls ≠ "java/lang/invoke/MethodHandle" ∧ yX1_isState.cls ≠ "java/lang/invoke/VarHandle" ∧ (parseMethodDescriptor yX1_isState.desc).map (fun d => d.parameters.length) = some 3 := by decide +kernel
theorem hdv_X1_isState : yX1_isState.cls = RX1 ∧ yX1_isState.cls ≠ "java/lang/invoke/MethodHandle" ∧ yX1_isState.cls ≠ "java/lang/invoke/VarHandle" ∧ (parseMethodDescriptor yX1_isState.desc).map (fun d => d.parameters.length) = some 3 := ⟨rfl, hdn_X1_isState⟩
theorem hdn_X1_judgeNext : yX1_judgeNext.cls ≠ "java/lang/invoke/MethodHandle" ∧ yX1_judgeNext.cls ≠ "java/lang/invoke/VarHandle" ∧ (parseMethodDescriptor yX1_judgeNext.desc).map (fun d => d.parameters.length) = some 1 := by decide +kernel
theorem hdv_X1_judgeNext : yX1_judgeNext.cls = RX1 ∧ yX1_judgeNext.cls ≠ "java/lang/invoke/MethodHandle" ∧ yX1_judgeNext.cls ≠ "java/lang/invoke/VarHandle" ∧ (parseMethodDescriptor yX1_judgeNext.desc).map (fun d => d.parameters.length) = some 1 := ⟨rfl, hdn_X1_judgeNext⟩
theorem hdn_X1_kindOf : yX1_kindOf.cls ≠ "java/lang/invoke/MethodHandle" ∧ yX1_kindOf.cls ≠ "java/lang/invoke/VarHandle" ∧ (parseMethodDescriptor yX1_kindOf.desc).map (fun d => d.parameters.length) = some 1 := by decide +kernel
theorem hdv_X1_kindOf : yX1_kindOf.cls = RX1 ∧ yX1_kindOf.cls ≠ "java/lang/invoke/MethodHandle" ∧ yX1_kindOf.cls ≠ "java/lang/invoke/VarHandle" ∧ (parseMethodDescriptor yX1_kindOf.desc).map (fun d => d.parameters.length) = some 1 := ⟨rfl, hdn_X1_kindOf⟩
theorem hdn_X1_lengthOf : yX1_lengthOf.cls ≠ "java/lang/invoke/MethodHandle" ∧ yX1_lengthOf.cls ≠ "java/lang/invoke/VarHandle" ∧ (parseMethodDescriptor yX1_lengthOf.desc).map (fun d => d.parameters.length) = some 1 := by decide +kernel
theorem hdv_X1_lengthOf : yX1_lengthOf.cls = RX1 ∧ yX1_lengthOf.cls ≠ "java/lang/invoke/MethodHandle" ∧ yX1_lengthOf.cls ≠ "java/lang/invoke/VarHandle" ∧ (parseMethodDescriptor yX1_lengthOf.desc).map (fun d => d.parameters.length) = some 1 := ⟨rfl, hdn_X1_lengthOf⟩
theorem hdn_X1_markAllOnDisk : yX1_markAllOnDisk.cls ≠ "java/lang/invoke/MethodHandle" ∧ yX1_markAllOnDisk.cls ≠ "java/lang/invoke/VarHandle" ∧ (parseMethodDescriptor yX1_markAllOnDisk.desc).map (fun d => d.parameters.length) = some 0 := by decide +kernel
theorem hdv_X1_markAllOnDisk : yX1_markAllOnDisk.cls = RX1 ∧ yX1_markAllOnDisk.cls ≠ "java/lang/invoke/MethodHandle" ∧ yX1_markAllOnDisk.cls ≠ "java/lang/invoke/VarHandle" ∧ (parseMethodDescriptor yX1_markAllOnDisk.desc).map (fun d => d.parameters.length) = some 0 := ⟨rfl, hdn_X1_markAllOnDisk⟩
theorem hdn_X1_numberOf : yX1_numberOf.cls ≠ "java/lang/invoke/MethodHandle" ∧ yX1_numberOf.cls ≠ "java/lang/invoke/VarHandle" ∧ (parseMethodDescriptor yX1_numberOf.desc).map (fun d => d.parameters.length) = some 2 := by decide +kernel
theorem hdv_X1_numberOf : yX1_numberOf.cls = RX1 ∧ yX1_numberOf.cls ≠ "java/lang/invoke/MethodHandle" ∧ yX1_numberOf.cls ≠ "java/lang/invoke/VarHandle" ∧ (parseMethodDescriptor yX1_numberOf.desc).map (fun d => d.parameters.length) = some 2 := ⟨rfl, hdn_X1_numberOf⟩
theorem hdn_X1_read : yX1_read.cls ≠ "java/lang/invoke/MethodHandle" ∧ yX1_read.cls ≠ "java/lang/invoke/VarHandle" ∧ (parseMethodDescriptor yX1_read.desc).map (fun d => d.parameters.length) = some 1 := by decide +kernel
theorem hdv_X1_read : yX1_read.cls = RX1 ∧ yX1_read.cls ≠ "java/lang/invoke/MethodHandle" ∧ yX1_read.cls ≠ "java/lang/invoke/VarHandle" ∧ (parseMethodDescriptor yX1_read.desc).map (fun d => d.parameters.length) = some 1 := ⟨rfl, hdn_X1_read⟩
theorem hdn_X1_sumOfBytes : yX1_sumOfBytes.cls ≠ "java/lang/invoke/MethodHandle" ∧ yX1_sumOfBytes.cls ≠ "java/lang/invoke/VarHandle" ∧ (parseMethodDescriptor yX1_sumOfBytes.desc).map (fun d => d.parameters.length) = some 1 := by decide +kernel
theorem hdv_X1_sumOfBytes : yX1_sumOfBytes.cls = RX1 ∧ yX1_sumOfBytes.cls ≠ "java/lang/invoke/MethodHandle" ∧ yX1_sumOfBytes.cls ≠ "java/lang/invoke/VarHandle" ∧ (parseMethodDescriptor yX1_sumOfBytes.desc).map (fun d => d.parameters.length) = some 1 := ⟨rfl, hdn_X1_sumOfBytes⟩
theorem hdn_X1_write : yX1_write.cls ≠ "java/lang/invoke/MethodHandle" ∧ yX1_write.cls ≠ "java/lang/invoke/VarHandle" ∧ (parseMethodDescriptor yX1_write.desc).map (fun d => d.parameters.length) = some 3 := by decide +kernel
theorem hdv_X1_write : yX1_write.cls = RX1 ∧ yX1_write.cls ≠ "java/lang/invoke/MethodHandle" ∧ yX1_write.cls ≠ "java/lang/invoke/VarHandle" ∧ (parseMethodDescriptor yX1_write.desc).map (fun d => d.parameters.length) = some 3 := ⟨rfl, hdn_X1_write⟩
theorem hdn_X1_writeState : yX1_writeState.cls ≠ "java/lang/invoke/MethodHandle" ∧ yX1_writeState.cls ≠ "java/lang/invoke/VarHandle" ∧ (parseMethodDescriptor yX1_writeState.desc).map (fun d => d.parameters.length) = some 0 := by decide +kernel
theorem hdv_X1_writeState : yX1_writeState.cls = RX1 ∧ yX1_writeState.cls ≠ "java/lang/invoke/MethodHandle" ∧ yX1_writeState.cls ≠ "java/lang/invoke/VarHandle" ∧ (parseMethodDescriptor yX1_writeState.desc).map (fun d => d.parameters.length) = some 0 := ⟨rfl, hdn_X1_writeState⟩
theorem hdn_X2_isKind : yX2_isKind.cls ≠ "java/lang/invoke/MethodHandle" ∧ yX2_isKind.cls ≠ "java/lang/invoke/VarHandle" ∧ (parseMethodDescriptor yX2_isKind.desc).map (fun d => d.parameters.length) = some 1 := by decide +kernel
theorem hds_X2_isKind : yX2_isKind.cls = RX2 ∧ yX2_isKind.cls ≠ "java/lang/invoke/MethodHandle" ∧ yX2_isKind.cls ≠ "java/lang/invoke/VarHandle" ∧ (parseMethodDescriptor yX2_isKind.desc).map (fun d => d.parameters.length) = some 1 := ⟨rfl, hdn_X2_isKind⟩
theorem hdn_X2_sumOfRow : yX2_sumOfRow.cls ≠ "java/lang/invoke/MethodHandle" ∧ yX2_sumOfRow.cls ≠ "java/lang/invoke/VarHandle" ∧ (parseMethodDescriptor yX2_sumOfRow.desc).map (fun d => d.parameters.length) = some 3 := by decide +kernel
theorem hds_X2_sumOfRow : yX2_sumOfRow.cls = RX2 ∧ yX2_sumOfRow.cls ≠ "java/lang/invoke/MethodHandle" ∧ yX2_sumOfRow.cls ≠ "java/lang/invoke/VarHandle" ∧ (parseMethodDescriptor yX2_sumOfRow.desc).map (fun d => d.parameters.length) = some 3 := ⟨rfl, hdn_X2_sumOfRow⟩
set_option maxHeartbeats 4000000 in
set_option maxRecDepth 100000 in
theorem m_X2_isKind (l : Launch) (dC : Nat → ClassId) (dI : Nat → Nat → Nat) (cI cJ : ClassId) (k : Int32)  : cP l yX2_isKind wsX2_isKind ({ frames := 0, cells := 0, slots := 0, locals := 0 }) dC dI cI cJ [] [.int k] (sl_isKind k) := by
  refine Met.ofW (cc := cX2_isKind) (maxL := 1) (ret := (some .boolean)) (by decide) rfl ?_
  intro p e s m args below meth c s₁ B hml hv
  obtain ⟨rfl, hP, hK⟩ := hv
  have hx := B.exec
  have hb := B.bytes
  have hr := B.returns
  have hts := atoms_spec (ws := wsX2_isKind) B.pre
  have hown : s.vm.findClass RX2 = some m.cls := findClass_of_methodNamed B.named
  have hlocks := B.notSynchronized
  have hl := lv_entry ([.int k]) (n := 1) (Nat.le_of_ble_eq_true rfl)
  rw [lg_entry_eq]
  generalize (lg_sl ([.int k]) ++ List.replicate (1 - (lg_sl ([.int k])).length) Slot.unset).toArray = ls at hl ⊢
  have hl : lv_has ls 1 [(0, .int k)] := hl
  refine lv_iload_n hx hb dX2_isKind_0 rfl (lv_at hl 0 rfl) ?_
  refine lv_iconst (v := 1) hx hb dX2_isKind_1 (by decide) ?_
  refine lv_icmp_lt (tgt := 14) hx hb dX2_isKind_2 (by decide) (fun c1 => ?_) (fun c1 => ?_)
  · refine lv_iconst (v := 0) hx hb dX2_isKind_14 (by decide) ?_
    exact k_zretP (ret := none) hx hb hr hlocks (by simp only [sl_isKind, if_pos c1]) (Or.inl rfl) rfl dX2_isKind_15
  · refine lv_iload_n hx hb dX2_isKind_5 rfl (lv_at hl 0 rfl) ?_
    refine lv_iconst (v := 5) hx hb dX2_isKind_6 (by decide) ?_
    refine lv_icmp_gt (tgt := 14) hx hb dX2_isKind_7 (by decide) (fun c2 => ?_) (fun c2 => ?_)
    · refine lv_iconst (v := 0) hx hb dX2_isKind_14 (by decide) ?_
      exact k_zretP (ret := none) hx hb hr hlocks (by simp only [sl_isKind, if_neg c1, if_pos c2]) (Or.inl rfl) rfl dX2_isKind_15
    · refine lv_iconst (v := 1) hx hb dX2_isKind_10 (by decide) ?_
      refine lv_goto (tgt := 15) hx hb dX2_isKind_11 (by decide) ?_
      exact k_zretP (ret := none) hx hb hr hlocks (by simp only [sl_isKind, if_neg c1, if_neg c2]) (Or.inr rfl) rfl dX2_isKind_15
set_option maxHeartbeats 4000000 in
set_option maxRecDepth 100000 in
theorem m_X2_sumOfRow (l : Launch) (dC : Nat → ClassId) (dI : Nat → Nat → Nat) (cI cJ : ClassId) (h0 : Nat) (a0 : Nat) (N : Nat) (f : Nat → Int32) (start : Int32) (length : Int32) (hN : N < 2 ^ 31) : cP l yX2_sumOfRow wsX2_sumOfRow ({ frames := 1, cells := 0, slots := 0, locals := 21 }) dC dI cI cJ [(h0, .inr (1, [.ref a0])), (a0, .inl (cI, N, .inl f))] [.ref h0, .int start, .int length] (sl_sum N f start length) := by
  refine Met.ofW (cc := cX2_sumOfRow) (maxL := 7) (ret := (some .int)) (by decide) rfl ?_
  intro p e s m args below meth c s₁ B hml hv
  obtain ⟨rfl, hP, hK⟩ := hv
  have hx := B.exec
  have hb := B.bytes
  have hr := B.returns
  have hts := atoms_spec (ws := wsX2_sumOfRow) B.pre
  have hown : s.vm.findClass RX2 = some m.cls := findClass_of_methodNamed B.named
  have hlocks := B.notSynchronized
  have hl := lv_entry ([.ref h0, .int start, .int length]) (n := 7) (Nat.le_of_ble_eq_true rfl)
  rw [lg_entry_eq]
  generalize (lg_sl ([.ref h0, .int start, .int length]) ++ List.replicate (7 - (lg_sl ([.ref h0, .int start, .int length])).length) Slot.unset).toArray = ls at hl ⊢
  have hl : lv_has ls 7 [(0, .ref h0), (1, .int start), (2, .int length)] := hl
  refine lv_iconst (v := 1) hx hb dX2_sumOfRow_0 (by decide) ?_
  refine lv_istore_n (lv' := [(3, .int 1), (0, .ref h0), (1, .int start), (2, .int length)]) hx hb dX2_sumOfRow_1 rfl hl (by decide) rfl (fun ls hl => ?_)
  refine lv_iload_n hx hb dX2_sumOfRow_2 rfl (lv_at hl 2 rfl) ?_
  refine lv_iconst (v := 5) hx hb dX2_sumOfRow_3 (by decide) ?_
  refine lv_iadd hx hb dX2_sumOfRow_4 ?_
  refine lv_iload_n hx hb dX2_sumOfRow_5 rfl (lv_at hl 3 rfl) ?_
  refine lv_iadd hx hb dX2_sumOfRow_6 ?_
  refine lv_istore (lv' := [(4, .int ((start + 5) + length)), (3, .int 1), (0, .ref h0), (1, .int start), (2, .int length)]) hx hb dX2_sumOfRow_7 hl (by decide) rfl (fun ls hl => ?_)
  refine lv_iload_n hx hb dX2_sumOfRow_9 rfl (lv_at hl 3 rfl) ?_
  refine lv_iconst (v := 1) hx hb dX2_sumOfRow_10 (by decide) ?_
  refine lv_iadd hx hb dX2_sumOfRow_11 ?_
  refine lv_istore (lv' := [(5, .int (start + 1)), (4, .int ((start + 5) + length)), (3, .int 1), (0, .ref h0), (1, .int start), (2, .int length)]) hx hb dX2_sumOfRow_12 hl (by decide) rfl (fun ls hl => ?_)
  have loop14 : ∀ (n : Nat) (i : Int32) (x : Int32) (ls : Array Slot), (loopE ((start + 5) + length) (fun i (x : Int32) => (.inl (sl_mix x (ca_at N f i)) : Int32 ⊕ Int32)) id i x = sl_sum N f start length) → (((start + 5) + length).toInt - i.toInt).toNat < n → lv_has ls 7 [(5, .int i), (4, .int ((start + 5) + length)), (3, .int x), (0, .ref h0), (1, .int start), (2, .int length)] → W p l e (headSpec wsX2_sumOfRow ({ frames := 1, cells := 0, slots := 0, locals := 21 })).room s m ([.ref h0, .int start, .int length] : List Value).toArray below meth c s.heap [] 0 0 (MQ below (vp_Si (fun x => x = sl_sum N f start length)) ([.ref h0, .int start, .int length] : List Value).toArray s 0 0 (fun _ => False)) (F0 m 14 ls []) := by
    intro n
    induction n with
    | zero => intro i x ls hi hm; exact absurd hm (Nat.not_lt_zero _)
    | succ n ih =>
      intro i x ls hi hm hl
      refine lv_iload hx hb dX2_sumOfRow_14 (lv_at hl 0 rfl) ?_
      refine lv_iload hx hb dX2_sumOfRow_16 (lv_at hl 1 rfl) ?_
      refine lv_icmp_ge (tgt := 52) hx hb dX2_sumOfRow_18 (by decide) (fun c1 => ?_) (fun c1 => ?_)
      · refine lv_iload_n hx hb dX2_sumOfRow_52 rfl (lv_at hl 2 rfl) ?_
        exact k_iretP (ret := none) hx hb hr hlocks (by rw [← hi, loopE_exit c1]; rfl) rfl dX2_sumOfRow_53
      · refine lv_iload_n hx hb dX2_sumOfRow_21 rfl (lv_at hl 2 rfl) ?_
        refine lv_aload_n hx hb dX2_sumOfRow_22 rfl (lv_at hl 3 rfl) ?_
        refine lv_iload hx hb dX2_sumOfRow_23 (lv_at hl 0 rfl) ?_
        refine k_afP (va_runV (rest := [.int x]) ⟨hx, hb, hml, hown, hts⟩ (m_X0_at l dC dI cI cJ h0 a0 N f i (by first | assumption | decide)) (cwV 1 hts gX2_sumOfRow_X0_at rfl rfl rfl hdv_X0_at ⟨Nat.le_of_ble_eq_true rfl, Nat.le_of_ble_eq_true rfl⟩) (k_preVP hK hP [0, 1] rfl 0 rfl rfl) rfl rfl hl.1 rfl (lv_room (Nat.le_of_ble_eq_true rfl)) dX2_sumOfRow_25 ⟨Nat.le_of_ble_eq_true rfl, Nat.le_of_ble_eq_true rfl⟩) ?_
        refine lv_ixor hx hb dX2_sumOfRow_28 ?_
        refine lv_istore (lv' := [(6, .int (x ^^^ (ca_at N f i))), (5, .int i), (4, .int ((start + 5) + length)), (3, .int x), (0, .ref h0), (1, .int start), (2, .int length)]) hx hb dX2_sumOfRow_29 hl (by decide) rfl (fun ls hl => ?_)
        refine lv_iload hx hb dX2_sumOfRow_31 (lv_at hl 0 rfl) ?_
        refine lv_bipush (v := 7) hx hb dX2_sumOfRow_33 (by decide) ?_
        refine lv_ishl hx hb dX2_sumOfRow_35 ?_
        refine lv_iload hx hb dX2_sumOfRow_36 (lv_at hl 0 rfl) ?_
        refine lv_bipush (v := 25) hx hb dX2_sumOfRow_38 (by decide) ?_
        refine lv_iushr (v := ushr (x ^^^ (ca_at N f i)) 25) hx hb dX2_sumOfRow_40 rfl ?_
        refine lv_ior hx hb dX2_sumOfRow_41 ?_
        refine lv_ldc hx hb hown (hts (.constant RX2 201 (-2048144777)) (by decide +kernel)) dX2_sumOfRow_42 ?_
        refine lv_imul hx hb dX2_sumOfRow_44 ?_
        refine lv_istore_n (lv' := [(3, .int ((((x ^^^ (ca_at N f i)) <<< (7 &&& 31)) ||| (ushr (x ^^^ (ca_at N f i)) 25)) * (-2048144777))), (6, .int (x ^^^ (ca_at N f i))), (5, .int i), (4, .int ((start + 5) + length)), (0, .ref h0), (1, .int start), (2, .int length)]) hx hb dX2_sumOfRow_45 rfl hl (by decide) rfl (fun ls hl => ?_)
        refine lv_iinc (v := i + 1) (lv' := [(5, .int (i + 1)), (3, .int ((((x ^^^ (ca_at N f i)) <<< (7 &&& 31)) ||| (ushr (x ^^^ (ca_at N f i)) 25)) * (-2048144777))), (6, .int (x ^^^ (ca_at N f i))), (4, .int ((start + 5) + length)), (0, .ref h0), (1, .int start), (2, .int length)]) hx hb dX2_sumOfRow_46 hl (k := 2) rfl rfl (by decide) rfl (fun ls hl => ?_)
        refine lv_goto (tgt := 14) hx hb dX2_sumOfRow_49 (by decide) ?_
        exact ih (i + 1) ((((x ^^^ (ca_at N f i)) <<< (7 &&& 31)) ||| (ushr (x ^^^ (ca_at N f i)) 25)) * (-2048144777)) ls (by rw [loopE_go c1 rfl] at hi; exact hi) (k_meas c1 hm) (lv_sub hl [0, 3, 1, 4, 5, 6] rfl)
  exact loop14 _ (start + 1) 1 ls rfl (Nat.lt_succ_self _) (lv_sub hl [0, 1, 2, 3, 4, 5] rfl)
set_option maxHeartbeats 4000000 in
set_option maxRecDepth 100000 in
theorem m_X1_has (l : Launch) (dC : Nat → ClassId) (dI : Nat → Nat → Nat) (cI cJ : ClassId) (r : Nat) (qi : Nat) (ai : Nat) (qs : Nat) (aS : Nat) (qk : Nat) (ak : Nat) (qt : Nat) (aT : Nat) (N : Nat) (K : Nat) (fi : Nat → Int32) (fs : Nat → Int32) (fk : Nat → Int32) (ft : Nat → Int32) (last : Int32) (used : Int32) (lod : Int32) (uod : Int32) (number : Int32)  : cP l yX1_has wsX1_has ({ frames := 0, cells := 0, slots := 0, locals := 0 }) dC dI cI cJ [(r, .inr (2, [.ref qi, .ref qs, .ref qk, .ref qt, .int last, .int used, .int lod, .int uod])), (qi, .inr (1, [.ref ai])), (ai, .inl (cI, N, .inl fi)), (qs, .inr (1, [.ref aS])), (aS, .inl (cI, K, .inl fs)), (qk, .inr (1, [.ref ak])), (ak, .inl (cI, 6, .inl fk)), (qt, .inr (1, [.ref aT])), (aT, .inl (cI, 8, .inl ft))] [.ref r, .int number] (if number < 1 then 0 else if last < number then 0 else 1) := by
  refine Met.ofW (cc := cX1_has) (maxL := 2) (ret := (some .boolean)) (by decide) rfl ?_
  intro p e s m args below meth c s₁ B hml hv
  obtain ⟨rfl, hP, hK⟩ := hv
  have hx := B.exec
  have hb := B.bytes
  have hr := B.returns
  have hts := atoms_spec (ws := wsX1_has) B.pre
  have hown : s.vm.findClass RX1 = some m.cls := findClass_of_methodNamed B.named
  have hlocks := B.notSynchronized
  have inX1 : ∀ w ∈ wsX10, w ∈ wsX1_has := fun w h => (List.mem_cons_of_mem _ (List.mem_append_right _ h))
  have fl29 := hts (.fieldLink RX1 29 "StockLog$Rows" "last" "I") (by decide +kernel)
  have hl := lv_entry ([.ref r, .int number]) (n := 2) (Nat.le_of_ble_eq_true rfl)
  rw [lg_entry_eq]
  generalize (lg_sl ([.ref r, .int number]) ++ List.replicate (2 - (lg_sl ([.ref r, .int number])).length) Slot.unset).toArray = ls at hl ⊢
  have hl : lv_has ls 2 [(0, .ref r), (1, .int number)] := hl
  refine lv_iload_n hx hb dX1_has_0 rfl (lv_at hl 1 rfl) ?_
  refine lv_iconst (v := 1) hx hb dX1_has_1 (by decide) ?_
  refine lv_icmp_lt (tgt := 17) hx hb dX1_has_2 (by decide) (fun c1 => ?_) (fun c1 => ?_)
  · refine lv_iconst (v := 0) hx hb dX1_has_17 (by decide) ?_
    exact k_zretP (ret := none) hx hb hr hlocks (by simp only [if_pos c1]) (Or.inl rfl) rfl dX1_has_18
  · refine lv_iload_n hx hb dX1_has_5 rfl (lv_at hl 1 rfl) ?_
    refine lv_aload_n hx hb dX1_has_6 rfl (lv_at hl 0 rfl) ?_
    refine k_get (ci := 2) (T := TX1) (N := 8) (C := RX1) hx hb hts inX1 hown hK hP 0 rfl rfl 4 (by decide) fl29 rfl rfl dX1_has_7 ?_
    refine lv_icmp_gt (tgt := 17) hx hb dX1_has_10 (by decide) (fun c2 => ?_) (fun c2 => ?_)
    · refine lv_iconst (v := 0) hx hb dX1_has_17 (by decide) ?_
      exact k_zretP (ret := none) hx hb hr hlocks (by simp only [if_neg c1, if_pos c2]) (Or.inl rfl) rfl dX1_has_18
    · refine lv_iconst (v := 1) hx hb dX1_has_13 (by decide) ?_
      refine lv_goto (tgt := 18) hx hb dX1_has_14 (by decide) ?_
      exact k_zretP (ret := none) hx hb hr hlocks (by simp only [if_neg c1, if_neg c2]) (Or.inr rfl) rfl dX1_has_18
set_option maxHeartbeats 4000000 in
set_option maxRecDepth 100000 in
theorem m_X1_kindOf (l : Launch) (dC : Nat → ClassId) (dI : Nat → Nat → Nat) (cI cJ : ClassId) (r : Nat) (qi : Nat) (ai : Nat) (qs : Nat) (aS : Nat) (qk : Nat) (ak : Nat) (qt : Nat) (aT : Nat) (N : Nat) (K : Nat) (fi : Nat → Int32) (fs : Nat → Int32) (fk : Nat → Int32) (ft : Nat → Int32) (last : Int32) (used : Int32) (lod : Int32) (uod : Int32) (number : Int32) (hN : N < 2 ^ 31) (hK9 : K < 2 ^ 31) : cP l yX1_kindOf wsX1_kindOf ({ frames := 1, cells := 0, slots := 0, locals := 21 }) dC dI cI cJ [(r, .inr (2, [.ref qi, .ref qs, .ref qk, .ref qt, .int last, .int used, .int lod, .int uod])), (qi, .inr (1, [.ref ai])), (ai, .inl (cI, N, .inl fi)), (qs, .inr (1, [.ref aS])), (aS, .inl (cI, K, .inl fs)), (qk, .inr (1, [.ref ak])), (ak, .inl (cI, 6, .inl fk)), (qt, .inr (1, [.ref aT])), (aT, .inl (cI, 8, .inl ft))] [.ref r, .int number] (rw_kindOf N K fi fs number) := by
  refine Met.ofW (cc := cX1_kindOf) (maxL := 2) (ret := (some .int)) (by decide) rfl ?_
  intro p e s m args below meth c s₁ B hml hv
  obtain ⟨rfl, hP, hK⟩ := hv
  have hx := B.exec
  have hb := B.bytes
  have hr := B.returns
  have hts := atoms_spec (ws := wsX1_kindOf) B.pre
  have hown : s.vm.findClass RX1 = some m.cls := findClass_of_methodNamed B.named
  have hlocks := B.notSynchronized
  have inX1 : ∀ w ∈ wsX10, w ∈ wsX1_kindOf := fun w h => (List.mem_cons_of_mem _ (List.mem_append_left _ (List.mem_append_right _ h)))
  have fl14 := hts (.fieldLink RX1 14 "StockLog$Rows" "image" "LStockLog$Cells;") (by decide +kernel)
  have fl20 := hts (.fieldLink RX1 20 "StockLog$Rows" "starts" "LStockLog$Cells;") (by decide +kernel)
  have hl := lv_entry ([.ref r, .int number]) (n := 2) (Nat.le_of_ble_eq_true rfl)
  rw [lg_entry_eq]
  generalize (lg_sl ([.ref r, .int number]) ++ List.replicate (2 - (lg_sl ([.ref r, .int number])).length) Slot.unset).toArray = ls at hl ⊢
  have hl : lv_has ls 2 [(0, .ref r), (1, .int number)] := hl
  refine lv_aload_n hx hb dX1_kindOf_0 rfl (lv_at hl 0 rfl) ?_
  refine k_get (ci := 2) (T := TX1) (N := 8) (C := RX1) hx hb hts inX1 hown hK hP 0 rfl rfl 0 (by decide) fl14 rfl rfl dX1_kindOf_1 ?_
  refine lv_aload_n hx hb dX1_kindOf_4 rfl (lv_at hl 0 rfl) ?_
  refine k_get (ci := 2) (T := TX1) (N := 8) (C := RX1) hx hb hts inX1 hown hK hP 0 rfl rfl 1 (by decide) fl20 rfl rfl dX1_kindOf_5 ?_
  refine lv_iload_n hx hb dX1_kindOf_8 rfl (lv_at hl 1 rfl) ?_
  refine k_afP (va_runV (rest := [.ref qi]) ⟨hx, hb, hml, hown, hts⟩ (m_X0_at l dC dI cI cJ qs aS K fs number (by first | assumption | decide)) (cwV 1 hts gX1_kindOf_X0_at rfl rfl rfl hdv_X0_at ⟨Nat.le_of_ble_eq_true rfl, Nat.le_of_ble_eq_true rfl⟩) (k_preVP hK hP [3, 4] rfl 3 rfl rfl) rfl rfl hl.1 rfl (lv_room (Nat.le_of_ble_eq_true rfl)) dX1_kindOf_9 ⟨Nat.le_of_ble_eq_true rfl, Nat.le_of_ble_eq_true rfl⟩) ?_
  refine lv_iconst (v := 1) hx hb dX1_kindOf_12 (by decide) ?_
  refine lv_iadd hx hb dX1_kindOf_13 ?_
  refine k_afP (va_runV (rest := []) ⟨hx, hb, hml, hown, hts⟩ (m_X0_at l dC dI cI cJ qi ai N fi ((ca_at K fs number) + 1) (by first | assumption | decide)) (cwV 1 hts gX1_kindOf_X0_at rfl rfl rfl hdv_X0_at ⟨Nat.le_of_ble_eq_true rfl, Nat.le_of_ble_eq_true rfl⟩) (k_preVP hK hP [1, 2] rfl 1 rfl rfl) rfl rfl hl.1 rfl (lv_room (Nat.le_of_ble_eq_true rfl)) dX1_kindOf_14 ⟨Nat.le_of_ble_eq_true rfl, Nat.le_of_ble_eq_true rfl⟩) ?_
  exact k_iretP (ret := none) hx hb hr hlocks rfl rfl dX1_kindOf_17
set_option maxHeartbeats 4000000 in
set_option maxRecDepth 100000 in
theorem m_X1_lengthOf (l : Launch) (dC : Nat → ClassId) (dI : Nat → Nat → Nat) (cI cJ : ClassId) (r : Nat) (qi : Nat) (ai : Nat) (qs : Nat) (aS : Nat) (qk : Nat) (ak : Nat) (qt : Nat) (aT : Nat) (N : Nat) (K : Nat) (fi : Nat → Int32) (fs : Nat → Int32) (fk : Nat → Int32) (ft : Nat → Int32) (last : Int32) (used : Int32) (lod : Int32) (uod : Int32) (number : Int32) (hN : N < 2 ^ 31) (hK9 : K < 2 ^ 31) : cP l yX1_lengthOf wsX1_lengthOf ({ frames := 1, cells := 0, slots := 0, locals := 21 }) dC dI cI cJ [(r, .inr (2, [.ref qi, .ref qs, .ref qk, .ref qt, .int last, .int used, .int lod, .int uod])), (qi, .inr (1, [.ref ai])), (ai, .inl (cI, N, .inl fi)), (qs, .inr (1, [.ref aS])), (aS, .inl (cI, K, .inl fs)), (qk, .inr (1, [.ref ak])), (ak, .inl (cI, 6, .inl fk)), (qt, .inr (1, [.ref aT])), (aT, .inl (cI, 8, .inl ft))] [.ref r, .int number] (rw_lengthOf N K fi fs number) := by
  refine Met.ofW (cc := cX1_lengthOf) (maxL := 2) (ret := (some .int)) (by decide) rfl ?_
  intro p e s m args below meth c s₁ B hml hv
  obtain ⟨rfl, hP, hK⟩ := hv
  have hx := B.exec
  have hb := B.bytes
  have hr := B.returns
  have hts := atoms_spec (ws := wsX1_lengthOf) B.pre
  have hown : s.vm.findClass RX1 = some m.cls := findClass_of_methodNamed B.named
  have hlocks := B.notSynchronized
  have inX1 : ∀ w ∈ wsX10, w ∈ wsX1_lengthOf := fun w h => (List.mem_cons_of_mem _ (List.mem_append_left _ (List.mem_append_right _ h)))
  have fl14 := hts (.fieldLink RX1 14 "StockLog$Rows" "image" "LStockLog$Cells;") (by decide +kernel)
  have fl20 := hts (.fieldLink RX1 20 "StockLog$Rows" "starts" "LStockLog$Cells;") (by decide +kernel)
  have hl := lv_entry ([.ref r, .int number]) (n := 2) (Nat.le_of_ble_eq_true rfl)
  rw [lg_entry_eq]
  generalize (lg_sl ([.ref r, .int number]) ++ List.replicate (2 - (lg_sl ([.ref r, .int number])).length) Slot.unset).toArray = ls at hl ⊢
  have hl : lv_has ls 2 [(0, .ref r), (1, .int number)] := hl
  refine lv_aload_n hx hb dX1_lengthOf_0 rfl (lv_at hl 0 rfl) ?_
  refine k_get (ci := 2) (T := TX1) (N := 8) (C := RX1) hx hb hts inX1 hown hK hP 0 rfl rfl 0 (by decide) fl14 rfl rfl dX1_lengthOf_1 ?_
  refine lv_aload_n hx hb dX1_lengthOf_4 rfl (lv_at hl 0 rfl) ?_
  refine k_get (ci := 2) (T := TX1) (N := 8) (C := RX1) hx hb hts inX1 hown hK hP 0 rfl rfl 1 (by decide) fl20 rfl rfl dX1_lengthOf_5 ?_
  refine lv_iload_n hx hb dX1_lengthOf_8 rfl (lv_at hl 1 rfl) ?_
  refine k_afP (va_runV (rest := [.ref qi]) ⟨hx, hb, hml, hown, hts⟩ (m_X0_at l dC dI cI cJ qs aS K fs number (by first | assumption | decide)) (cwV 1 hts gX1_lengthOf_X0_at rfl rfl rfl hdv_X0_at ⟨Nat.le_of_ble_eq_true rfl, Nat.le_of_ble_eq_true rfl⟩) (k_preVP hK hP [3, 4] rfl 3 rfl rfl) rfl rfl hl.1 rfl (lv_room (Nat.le_of_ble_eq_true rfl)) dX1_lengthOf_9 ⟨Nat.le_of_ble_eq_true rfl, Nat.le_of_ble_eq_true rfl⟩) ?_
  refine lv_iconst (v := 4) hx hb dX1_lengthOf_12 (by decide) ?_
  refine lv_iadd hx hb dX1_lengthOf_13 ?_
  refine k_afP (va_runV (rest := []) ⟨hx, hb, hml, hown, hts⟩ (m_X0_at l dC dI cI cJ qi ai N fi ((ca_at K fs number) + 4) (by first | assumption | decide)) (cwV 1 hts gX1_lengthOf_X0_at rfl rfl rfl hdv_X0_at ⟨Nat.le_of_ble_eq_true rfl, Nat.le_of_ble_eq_true rfl⟩) (k_preVP hK hP [1, 2] rfl 1 rfl rfl) rfl rfl hl.1 rfl (lv_room (Nat.le_of_ble_eq_true rfl)) dX1_lengthOf_14 ⟨Nat.le_of_ble_eq_true rfl, Nat.le_of_ble_eq_true rfl⟩) ?_
  exact k_iretP (ret := none) hx hb hr hlocks rfl rfl dX1_lengthOf_17
set_option maxHeartbeats 4000000 in
set_option maxRecDepth 100000 in
theorem m_X1_byteAt (l : Launch) (dC : Nat → ClassId) (dI : Nat → Nat → Nat) (cI cJ : ClassId) (r : Nat) (qi : Nat) (ai : Nat) (qs : Nat) (aS : Nat) (qk : Nat) (ak : Nat) (qt : Nat) (aT : Nat) (N : Nat) (K : Nat) (fi : Nat → Int32) (fs : Nat → Int32) (fk : Nat → Int32) (ft : Nat → Int32) (last : Int32) (used : Int32) (lod : Int32) (uod : Int32) (number : Int32) (i : Int32) (hN : N < 2 ^ 31) (hK9 : K < 2 ^ 31) : cP l yX1_byteAt wsX1_byteAt ({ frames := 1, cells := 0, slots := 0, locals := 21 }) dC dI cI cJ [(r, .inr (2, [.ref qi, .ref qs, .ref qk, .ref qt, .int last, .int used, .int lod, .int uod])), (qi, .inr (1, [.ref ai])), (ai, .inl (cI, N, .inl fi)), (qs, .inr (1, [.ref aS])), (aS, .inl (cI, K, .inl fs)), (qk, .inr (1, [.ref ak])), (ak, .inl (cI, 6, .inl fk)), (qt, .inr (1, [.ref aT])), (aT, .inl (cI, 8, .inl ft))] [.ref r, .int number, .int i] (rw_byteAt N K fi fs number i) := by
  refine Met.ofW (cc := cX1_byteAt) (maxL := 3) (ret := (some .int)) (by decide) rfl ?_
  intro p e s m args below meth c s₁ B hml hv
  obtain ⟨rfl, hP, hK⟩ := hv
  have hx := B.exec
  have hb := B.bytes
  have hr := B.returns
  have hts := atoms_spec (ws := wsX1_byteAt) B.pre
  have hown : s.vm.findClass RX1 = some m.cls := findClass_of_methodNamed B.named
  have hlocks := B.notSynchronized
  have inX1 : ∀ w ∈ wsX10, w ∈ wsX1_byteAt := fun w h => (List.mem_cons_of_mem _ (List.mem_append_left _ (List.mem_append_right _ h)))
  have fl14 := hts (.fieldLink RX1 14 "StockLog$Rows" "image" "LStockLog$Cells;") (by decide +kernel)
  have fl20 := hts (.fieldLink RX1 20 "StockLog$Rows" "starts" "LStockLog$Cells;") (by decide +kernel)
  have hl := lv_entry ([.ref r, .int number, .int i]) (n := 3) (Nat.le_of_ble_eq_true rfl)
  rw [lg_entry_eq]
  generalize (lg_sl ([.ref r, .int number, .int i]) ++ List.replicate (3 - (lg_sl ([.ref r, .int number, .int i])).length) Slot.unset).toArray = ls at hl ⊢
  have hl : lv_has ls 3 [(0, .ref r), (1, .int number), (2, .int i)] := hl
  refine lv_aload_n hx hb dX1_byteAt_0 rfl (lv_at hl 0 rfl) ?_
  refine k_get (ci := 2) (T := TX1) (N := 8) (C := RX1) hx hb hts inX1 hown hK hP 0 rfl rfl 0 (by decide) fl14 rfl rfl dX1_byteAt_1 ?_
  refine lv_aload_n hx hb dX1_byteAt_4 rfl (lv_at hl 0 rfl) ?_
  refine k_get (ci := 2) (T := TX1) (N := 8) (C := RX1) hx hb hts inX1 hown hK hP 0 rfl rfl 1 (by decide) fl20 rfl rfl dX1_byteAt_5 ?_
  refine lv_iload_n hx hb dX1_byteAt_8 rfl (lv_at hl 1 rfl) ?_
  refine k_afP (va_runV (rest := [.ref qi]) ⟨hx, hb, hml, hown, hts⟩ (m_X0_at l dC dI cI cJ qs aS K fs number (by first | assumption | decide)) (cwV 1 hts gX1_byteAt_X0_at rfl rfl rfl hdv_X0_at ⟨Nat.le_of_ble_eq_true rfl, Nat.le_of_ble_eq_true rfl⟩) (k_preVP hK hP [3, 4] rfl 3 rfl rfl) rfl rfl hl.1 rfl (lv_room (Nat.le_of_ble_eq_true rfl)) dX1_byteAt_9 ⟨Nat.le_of_ble_eq_true rfl, Nat.le_of_ble_eq_true rfl⟩) ?_
  refine lv_iconst (v := 5) hx hb dX1_byteAt_12 (by decide) ?_
  refine lv_iadd hx hb dX1_byteAt_13 ?_
  refine lv_iload_n hx hb dX1_byteAt_14 rfl (lv_at hl 2 rfl) ?_
  refine lv_iadd hx hb dX1_byteAt_15 ?_
  refine k_afP (va_runV (rest := []) ⟨hx, hb, hml, hown, hts⟩ (m_X0_at l dC dI cI cJ qi ai N fi (((ca_at K fs number) + 5) + i) (by first | assumption | decide)) (cwV 1 hts gX1_byteAt_X0_at rfl rfl rfl hdv_X0_at ⟨Nat.le_of_ble_eq_true rfl, Nat.le_of_ble_eq_true rfl⟩) (k_preVP hK hP [1, 2] rfl 1 rfl rfl) rfl rfl hl.1 rfl (lv_room (Nat.le_of_ble_eq_true rfl)) dX1_byteAt_16 ⟨Nat.le_of_ble_eq_true rfl, Nat.le_of_ble_eq_true rfl⟩) ?_
  exact k_iretP (ret := none) hx hb hr hlocks rfl rfl dX1_byteAt_19
set_option maxHeartbeats 4000000 in
set_option maxRecDepth 100000 in
theorem m_X1_sumOfBytes (l : Launch) (dC : Nat → ClassId) (dI : Nat → Nat → Nat) (cI cJ : ClassId) (r : Nat) (qi : Nat) (ai : Nat) (qs : Nat) (aS : Nat) (qk : Nat) (ak : Nat) (qt : Nat) (aT : Nat) (N : Nat) (K : Nat) (fi : Nat → Int32) (fs : Nat → Int32) (fk : Nat → Int32) (ft : Nat → Int32) (last : Int32) (used : Int32) (lod : Int32) (uod : Int32) (number : Int32) (hN : N < 2 ^ 31) (hK9 : K < 2 ^ 31) : cP l yX1_sumOfBytes wsX1_sumOfBytes ({ frames := 2, cells := 0, slots := 0, locals := 43 }) dC dI cI cJ [(r, .inr (2, [.ref qi, .ref qs, .ref qk, .ref qt, .int last, .int used, .int lod, .int uod])), (qi, .inr (1, [.ref ai])), (ai, .inl (cI, N, .inl fi)), (qs, .inr (1, [.ref aS])), (aS, .inl (cI, K, .inl fs)), (qk, .inr (1, [.ref ak])), (ak, .inl (cI, 6, .inl fk)), (qt, .inr (1, [.ref aT])), (aT, .inl (cI, 8, .inl ft))] [.ref r, .int number] (rw_sumOfBytes N K fi fs number) := by
  refine Met.ofW (cc := cX1_sumOfBytes) (maxL := 5) (ret := (some .int)) (by decide) rfl ?_
  intro p e s m args below meth c s₁ B hml hv
  obtain ⟨rfl, hP, hK⟩ := hv
  have hx := B.exec
  have hb := B.bytes
  have hr := B.returns
  have hts := atoms_spec (ws := wsX1_sumOfBytes) B.pre
  have hown : s.vm.findClass RX1 = some m.cls := findClass_of_methodNamed B.named
  have hlocks := B.notSynchronized
  have hl := lv_entry ([.ref r, .int number]) (n := 5) (Nat.le_of_ble_eq_true rfl)
  rw [lg_entry_eq]
  generalize (lg_sl ([.ref r, .int number]) ++ List.replicate (5 - (lg_sl ([.ref r, .int number])).length) Slot.unset).toArray = ls at hl ⊢
  have hl : lv_has ls 5 [(0, .ref r), (1, .int number)] := hl
  refine lv_aload_n hx hb dX1_sumOfBytes_0 rfl (lv_at hl 0 rfl) ?_
  refine lv_iload_n hx hb dX1_sumOfBytes_1 rfl (lv_at hl 1 rfl) ?_
  refine k_afP (va_runV (rest := []) ⟨hx, hb, hml, hown, hts⟩ (m_X1_lengthOf l dC dI cI cJ r qi ai qs aS qk ak qt aT N K fi fs fk ft last used lod uod number (by first | assumption | decide) (by first | assumption | decide)) (cwV 1 hts gX1_sumOfBytes_X1_lengthOf rfl rfl rfl hdv_X1_lengthOf ⟨Nat.le_of_ble_eq_true rfl, Nat.le_of_ble_eq_true rfl⟩) (k_preVP hK hP [0, 1, 2, 3, 4, 5, 6, 7, 8] rfl 0 rfl rfl) rfl rfl hl.1 rfl (lv_room (Nat.le_of_ble_eq_true rfl)) dX1_sumOfBytes_2 ⟨Nat.le_of_ble_eq_true rfl, Nat.le_of_ble_eq_true rfl⟩) ?_
  refine lv_istore_n (lv' := [(2, .int (rw_lengthOf N K fi fs number)), (0, .ref r), (1, .int number)]) hx hb dX1_sumOfBytes_5 rfl hl (by decide) rfl (fun ls hl => ?_)
  refine lv_iconst (v := 0) hx hb dX1_sumOfBytes_6 (by decide) ?_
  refine lv_istore_n (lv' := [(3, .int 0), (2, .int (rw_lengthOf N K fi fs number)), (0, .ref r), (1, .int number)]) hx hb dX1_sumOfBytes_7 rfl hl (by decide) rfl (fun ls hl => ?_)
  refine lv_iconst (v := 0) hx hb dX1_sumOfBytes_8 (by decide) ?_
  refine lv_istore (lv' := [(4, .int 0), (3, .int 0), (2, .int (rw_lengthOf N K fi fs number)), (0, .ref r), (1, .int number)]) hx hb dX1_sumOfBytes_9 hl (by decide) rfl (fun ls hl => ?_)
  have loop11 : ∀ (n : Nat) (i : Int32) (x : Int32) (ls : Array Slot), (loopE (rw_lengthOf N K fi fs number) (fun i (x : Int32) => (.inl (x + (rw_byteAt N K fi fs number i)) : Int32 ⊕ Int32)) id i x = rw_sumOfBytes N K fi fs number) → ((rw_lengthOf N K fi fs number).toInt - i.toInt).toNat < n → lv_has ls 5 [(4, .int i), (3, .int x), (2, .int (rw_lengthOf N K fi fs number)), (0, .ref r), (1, .int number)] → W p l e (headSpec wsX1_sumOfBytes ({ frames := 2, cells := 0, slots := 0, locals := 43 })).room s m ([.ref r, .int number] : List Value).toArray below meth c s.heap [] 0 0 (MQ below (vp_Si (fun x => x = rw_sumOfBytes N K fi fs number)) ([.ref r, .int number] : List Value).toArray s 0 0 (fun _ => False)) (F0 m 11 ls []) := by
    intro n
    induction n with
    | zero => intro i x ls hi hm; exact absurd hm (Nat.not_lt_zero _)
    | succ n ih =>
      intro i x ls hi hm hl
      refine lv_iload hx hb dX1_sumOfBytes_11 (lv_at hl 0 rfl) ?_
      refine lv_iload_n hx hb dX1_sumOfBytes_13 rfl (lv_at hl 2 rfl) ?_
      refine lv_icmp_ge (tgt := 33) hx hb dX1_sumOfBytes_14 (by decide) (fun c1 => ?_) (fun c1 => ?_)
      · refine lv_iload_n hx hb dX1_sumOfBytes_33 rfl (lv_at hl 1 rfl) ?_
        exact k_iretP (ret := none) hx hb hr hlocks (by rw [← hi, loopE_exit c1]; rfl) rfl dX1_sumOfBytes_34
      · refine lv_iload_n hx hb dX1_sumOfBytes_17 rfl (lv_at hl 1 rfl) ?_
        refine lv_aload_n hx hb dX1_sumOfBytes_18 rfl (lv_at hl 3 rfl) ?_
        refine lv_iload_n hx hb dX1_sumOfBytes_19 rfl (lv_at hl 4 rfl) ?_
        refine lv_iload hx hb dX1_sumOfBytes_20 (lv_at hl 0 rfl) ?_
        refine k_afP (va_runV (rest := [.int x]) ⟨hx, hb, hml, hown, hts⟩ (m_X1_byteAt l dC dI cI cJ r qi ai qs aS qk ak qt aT N K fi fs fk ft last used lod uod number i (by first | assumption | decide) (by first | assumption | decide)) (cwV 2 hts gX1_sumOfBytes_X1_byteAt rfl rfl rfl hdv_X1_byteAt ⟨Nat.le_of_ble_eq_true rfl, Nat.le_of_ble_eq_true rfl⟩) (k_preVP hK hP [0, 1, 2, 3, 4, 5, 6, 7, 8] rfl 0 rfl rfl) rfl rfl hl.1 rfl (lv_room (Nat.le_of_ble_eq_true rfl)) dX1_sumOfBytes_22 ⟨Nat.le_of_ble_eq_true rfl, Nat.le_of_ble_eq_true rfl⟩) ?_
        refine lv_iadd hx hb dX1_sumOfBytes_25 ?_
        refine lv_istore_n (lv' := [(3, .int (x + (rw_byteAt N K fi fs number i))), (4, .int i), (2, .int (rw_lengthOf N K fi fs number)), (0, .ref r), (1, .int number)]) hx hb dX1_sumOfBytes_26 rfl hl (by decide) rfl (fun ls hl => ?_)
        refine lv_iinc (v := i + 1) (lv' := [(4, .int (i + 1)), (3, .int (x + (rw_byteAt N K fi fs number i))), (2, .int (rw_lengthOf N K fi fs number)), (0, .ref r), (1, .int number)]) hx hb dX1_sumOfBytes_27 hl (k := 1) rfl rfl (by decide) rfl (fun ls hl => ?_)
        refine lv_goto (tgt := 11) hx hb dX1_sumOfBytes_30 (by decide) ?_
        exact ih (i + 1) (x + (rw_byteAt N K fi fs number i)) ls (by rw [loopE_go c1 rfl] at hi; exact hi) (k_meas c1 hm) (lv_sub hl [0, 1, 2, 3, 4] rfl)
  exact loop11 _ 0 0 ls rfl (Nat.lt_succ_self _) (lv_sub hl [0, 1, 2, 3, 4] rfl)
set_option maxHeartbeats 4000000 in
set_option maxRecDepth 100000 in
theorem m_X1_numberOf (l : Launch) (dC : Nat → ClassId) (dI : Nat → Nat → Nat) (cI cJ : ClassId) (r : Nat) (qi : Nat) (ai : Nat) (qs : Nat) (aS : Nat) (qk : Nat) (ak : Nat) (qt : Nat) (aT : Nat) (N : Nat) (K : Nat) (fi : Nat → Int32) (fs : Nat → Int32) (fk : Nat → Int32) (ft : Nat → Int32) (last : Int32) (used : Int32) (lod : Int32) (uod : Int32) (kind : Int32) (i : Int32) (hN : N < 2 ^ 31) (hK9 : K < 2 ^ 31) (hlast : last < 2147483647) : cP l yX1_numberOf wsX1_numberOf ({ frames := 2, cells := 0, slots := 0, locals := 42 }) dC dI cI cJ [(r, .inr (2, [.ref qi, .ref qs, .ref qk, .ref qt, .int last, .int used, .int lod, .int uod])), (qi, .inr (1, [.ref ai])), (ai, .inl (cI, N, .inl fi)), (qs, .inr (1, [.ref aS])), (aS, .inl (cI, K, .inl fs)), (qk, .inr (1, [.ref ak])), (ak, .inl (cI, 6, .inl fk)), (qt, .inr (1, [.ref aT])), (aT, .inl (cI, 8, .inl ft))] [.ref r, .int kind, .int i] (rw_numberOf N K fi fs last kind i) := by
  refine Met.ofW (cc := cX1_numberOf) (maxL := 5) (ret := (some .int)) (by decide) rfl ?_
  intro p e s m args below meth c s₁ B hml hv
  obtain ⟨rfl, hP, hK⟩ := hv
  have hx := B.exec
  have hb := B.bytes
  have hr := B.returns
  have hts := atoms_spec (ws := wsX1_numberOf) B.pre
  have hown : s.vm.findClass RX1 = some m.cls := findClass_of_methodNamed B.named
  have hlocks := B.notSynchronized
  have inX1 : ∀ w ∈ wsX10, w ∈ wsX1_numberOf := fun w h => (List.mem_cons_of_mem _ (List.mem_append_left _ (List.mem_append_right _ h)))
  have fl29 := hts (.fieldLink RX1 29 "StockLog$Rows" "last" "I") (by decide +kernel)
  have hl := lv_entry ([.ref r, .int kind, .int i]) (n := 5) (Nat.le_of_ble_eq_true rfl)
  rw [lg_entry_eq]
  generalize (lg_sl ([.ref r, .int kind, .int i]) ++ List.replicate (5 - (lg_sl ([.ref r, .int kind, .int i])).length) Slot.unset).toArray = ls at hl ⊢
  have hl : lv_has ls 5 [(0, .ref r), (1, .int kind), (2, .int i)] := hl
  refine lv_iconst (v := 0) hx hb dX1_numberOf_0 (by decide) ?_
  refine lv_istore_n (lv' := [(3, .int 0), (0, .ref r), (1, .int kind), (2, .int i)]) hx hb dX1_numberOf_1 rfl hl (by decide) rfl (fun ls hl => ?_)
  refine lv_iconst (v := 1) hx hb dX1_numberOf_2 (by decide) ?_
  refine lv_istore (lv' := [(4, .int 1), (3, .int 0), (0, .ref r), (1, .int kind), (2, .int i)]) hx hb dX1_numberOf_3 hl (by decide) rfl (fun ls hl => ?_)
  have loop5 : ∀ (n : Nat) (number : Int32) (before : Int32) (ls : Array Slot), (loopE (last + 1) (fun number (before : Int32) => rw_nstep N K fi fs kind i number before) (fun _ => -1) number before = rw_numberOf N K fi fs last kind i) → ((last + 1).toInt - number.toInt).toNat < n → lv_has ls 5 [(4, .int number), (3, .int before), (0, .ref r), (1, .int kind), (2, .int i)] → W p l e (headSpec wsX1_numberOf ({ frames := 2, cells := 0, slots := 0, locals := 42 })).room s m ([.ref r, .int kind, .int i] : List Value).toArray below meth c s.heap [] 0 0 (MQ below (vp_Si (fun x => x = rw_numberOf N K fi fs last kind i)) ([.ref r, .int kind, .int i] : List Value).toArray s 0 0 (fun _ => False)) (F0 m 5 ls []) := by
    intro n
    induction n with
    | zero => intro number before ls hi hm; exact absurd hm (Nat.not_lt_zero _)
    | succ n ih =>
      intro number before ls hi hm hl
      refine lv_iload hx hb dX1_numberOf_5 (lv_at hl 0 rfl) ?_
      refine lv_aload_n hx hb dX1_numberOf_7 rfl (lv_at hl 2 rfl) ?_
      refine k_get (ci := 2) (T := TX1) (N := 8) (C := RX1) hx hb hts inX1 hown hK hP 0 rfl rfl 4 (by decide) fl29 rfl rfl dX1_numberOf_8 ?_
      refine lv_icmp_gt (tgt := 41) hx hb dX1_numberOf_11 (by decide) (fun c1 => ?_) (fun c1 => ?_)
      · refine lv_iconst (v := (-1)) hx hb dX1_numberOf_41 (by decide) ?_
        exact k_iretP (ret := none) hx hb hr hlocks (by rw [← hi, loopE_exit ((k_le1 hlast).mp c1)]) rfl dX1_numberOf_42
      · refine lv_aload_n hx hb dX1_numberOf_14 rfl (lv_at hl 2 rfl) ?_
        refine lv_iload hx hb dX1_numberOf_15 (lv_at hl 0 rfl) ?_
        refine k_afP (va_runV (rest := []) ⟨hx, hb, hml, hown, hts⟩ (m_X1_kindOf l dC dI cI cJ r qi ai qs aS qk ak qt aT N K fi fs fk ft last used lod uod number (by first | assumption | decide) (by first | assumption | decide)) (cwV 1 hts gX1_numberOf_X1_kindOf rfl rfl rfl hdv_X1_kindOf ⟨Nat.le_of_ble_eq_true rfl, Nat.le_of_ble_eq_true rfl⟩) (k_preVP hK hP [0, 1, 2, 3, 4, 5, 6, 7, 8] rfl 0 rfl rfl) rfl rfl hl.1 rfl (lv_room (Nat.le_of_ble_eq_true rfl)) dX1_numberOf_17 ⟨Nat.le_of_ble_eq_true rfl, Nat.le_of_ble_eq_true rfl⟩) ?_
        refine lv_iload_n hx hb dX1_numberOf_20 rfl (lv_at hl 3 rfl) ?_
        refine lv_icmp_ne (tgt := 35) hx hb dX1_numberOf_21 (by decide) (fun c2 => ?_) (fun c2 => ?_)
        · refine lv_iinc (v := number + 1) (lv' := [(4, .int (number + 1)), (3, .int before), (0, .ref r), (1, .int kind), (2, .int i)]) hx hb dX1_numberOf_35 hl (k := 0) rfl rfl (by decide) rfl (fun ls hl => ?_)
          refine lv_goto (tgt := 5) hx hb dX1_numberOf_38 (by decide) ?_
          exact ih (number + 1) before ls (by rw [loopE_go (k_le1n hlast c1) (by simp only [rw_nstep, if_neg c2]; rfl)] at hi; exact hi) (k_meas (k_le1n hlast c1) hm) (lv_sub hl [0, 1, 2, 3, 4] rfl)
        · refine lv_iload_n hx hb dX1_numberOf_24 rfl (lv_at hl 1 rfl) ?_
          refine lv_iload_n hx hb dX1_numberOf_25 rfl (lv_at hl 4 rfl) ?_
          refine lv_icmp_ne (tgt := 32) hx hb dX1_numberOf_26 (by decide) (fun c3 => ?_) (fun c3 => ?_)
          · refine lv_iinc (v := before + 1) (lv' := [(3, .int (before + 1)), (4, .int number), (0, .ref r), (1, .int kind), (2, .int i)]) hx hb dX1_numberOf_32 hl (k := 1) rfl rfl (by decide) rfl (fun ls hl => ?_)
            refine lv_iinc (v := number + 1) (lv' := [(4, .int (number + 1)), (3, .int (before + 1)), (0, .ref r), (1, .int kind), (2, .int i)]) hx hb dX1_numberOf_35 hl (k := 1) rfl rfl (by decide) rfl (fun ls hl => ?_)
            refine lv_goto (tgt := 5) hx hb dX1_numberOf_38 (by decide) ?_
            exact ih (number + 1) (before + 1) ls (by rw [loopE_go (k_le1n hlast c1) (by simp only [rw_nstep, if_pos c2, if_neg c3]; rfl)] at hi; exact hi) (k_meas (k_le1n hlast c1) hm) (lv_sub hl [0, 1, 2, 3, 4] rfl)
          · refine lv_iload hx hb dX1_numberOf_29 (lv_at hl 0 rfl) ?_
            exact k_iretP (ret := none) hx hb hr hlocks (by rw [← hi, loopE_ret (k_le1n hlast c1) (by simp only [rw_nstep, if_pos c2, if_pos c3]; rfl)]) rfl dX1_numberOf_31
  exact loop5 _ 1 0 ls rfl (Nat.lt_succ_self _) (lv_sub hl [0, 1, 2, 3, 4] rfl)
set_option maxHeartbeats 4000000 in
set_option maxRecDepth 100000 in
theorem m_X1_bytesInMemory (l : Launch) (dC : Nat → ClassId) (dI : Nat → Nat → Nat) (cI cJ : ClassId) (r : Nat) (qi : Nat) (ai : Nat) (qs : Nat) (aS : Nat) (qk : Nat) (ak : Nat) (qt : Nat) (aT : Nat) (N : Nat) (K : Nat) (fi : Nat → Int32) (fs : Nat → Int32) (fk : Nat → Int32) (ft : Nat → Int32) (last : Int32) (used : Int32) (lod : Int32) (uod : Int32)  : cP l yX1_bytesInMemory wsX1_bytesInMemory ({ frames := 0, cells := 0, slots := 0, locals := 0 }) dC dI cI cJ [(r, .inr (2, [.ref qi, .ref qs, .ref qk, .ref qt, .int last, .int used, .int lod, .int uod])), (qi, .inr (1, [.ref ai])), (ai, .inl (cI, N, .inl fi)), (qs, .inr (1, [.ref aS])), (aS, .inl (cI, K, .inl fs)), (qk, .inr (1, [.ref ak])), (ak, .inl (cI, 6, .inl fk)), (qt, .inr (1, [.ref aT])), (aT, .inl (cI, 8, .inl ft))] [.ref r] (used - uod) := by
  refine Met.ofW (cc := cX1_bytesInMemory) (maxL := 1) (ret := (some .int)) (by decide) rfl ?_
  intro p e s m args below meth c s₁ B hml hv
  obtain ⟨rfl, hP, hK⟩ := hv
  have hx := B.exec
  have hb := B.bytes
  have hr := B.returns
  have hts := atoms_spec (ws := wsX1_bytesInMemory) B.pre
  have hown : s.vm.findClass RX1 = some m.cls := findClass_of_methodNamed B.named
  have hlocks := B.notSynchronized
  have inX1 : ∀ w ∈ wsX10, w ∈ wsX1_bytesInMemory := fun w h => (List.mem_cons_of_mem _ (List.mem_append_right _ h))
  have fl47 := hts (.fieldLink RX1 47 "StockLog$Rows" "used" "I") (by decide +kernel)
  have fl50 := hts (.fieldLink RX1 50 "StockLog$Rows" "usedOnDisk" "I") (by decide +kernel)
  have hl := lv_entry ([.ref r]) (n := 1) (Nat.le_of_ble_eq_true rfl)
  rw [lg_entry_eq]
  generalize (lg_sl ([.ref r]) ++ List.replicate (1 - (lg_sl ([.ref r])).length) Slot.unset).toArray = ls at hl ⊢
  have hl : lv_has ls 1 [(0, .ref r)] := hl
  refine lv_aload_n hx hb dX1_bytesInMemory_0 rfl (lv_at hl 0 rfl) ?_
  refine k_get (ci := 2) (T := TX1) (N := 8) (C := RX1) hx hb hts inX1 hown hK hP 0 rfl rfl 5 (by decide) fl47 rfl rfl dX1_bytesInMemory_1 ?_
  refine lv_aload_n hx hb dX1_bytesInMemory_4 rfl (lv_at hl 0 rfl) ?_
  refine k_get (ci := 2) (T := TX1) (N := 8) (C := RX1) hx hb hts inX1 hown hK hP 0 rfl rfl 7 (by decide) fl50 rfl rfl dX1_bytesInMemory_5 ?_
  refine lv_isub hx hb dX1_bytesInMemory_8 ?_
  exact k_iretP (ret := none) hx hb hr hlocks rfl rfl dX1_bytesInMemory_9
