theorem hdn_X3_add : yX3_add.cls ≠ "java/lang/invoke/MethodHandle" ∧ yX3_add.cls ≠ "java/lang/invoke/VarHandle" ∧ (parseMethodDescriptor yX3_add.desc).map (fun d => d.parameters.length) = some 1 := by decide +kernel
theorem hdv_X3_add : yX3_add.cls = RX3 ∧ yX3_add.cls ≠ "java/lang/invoke/MethodHandle" ∧ yX3_add.cls ≠ "java/lang/invoke/VarHandle" ∧ (parseMethodDescriptor yX3_add.desc).map (fun d => d.parameters.length) = some 1 := ⟨rfl, hdn_X3_add⟩
theorem hdn_X3_backup : yX3_backup.cls ≠ "java/lang/invoke/MethodHandle" ∧ yX3_backup.cls ≠ "java/lang/invoke/VarHandle" ∧ (parseMethodDescriptor yX3_backup.desc).map (fun d => d.parameters.length) = some 0 := by decide +kernel
theorem hdv_X3_backup : yX3_backup.cls = RX3 ∧ yX3_backup.cls ≠ "java/lang/invoke/MethodHandle" ∧ yX3_backup.cls ≠ "java/lang/invoke/VarHandle" ∧ (parseMethodDescriptor yX3_backup.desc).map (fun d => d.parameters.length) = some 0 := ⟨rfl, hdn_X3_backup⟩
theorem hdn_X3_byteOf : yX3_byteOf.cls ≠ "java/lang/invoke/MethodHandle" ∧ yX3_byteOf.cls ≠ "java/lang/invoke/VarHandle" ∧ (parseMethodDescriptor yX3_byteOf.desc).map (fun d => d.parameters.length) = some 2 := by decide +kernel
theorem hdv_X3_byteOf : yX3_byteOf.cls = RX3 ∧ yX3_byteOf.cls ≠ "java/lang/invoke/MethodHandle" ∧ yX3_byteOf.cls ≠ "java/lang/invoke/VarHandle" ∧ (parseMethodDescriptor yX3_byteOf.desc).map (fun d => d.parameters.length) = some 2 := ⟨rfl, hdn_X3_byteOf⟩
theorem hdn_X3_close : yX3_close.cls ≠ "java/lang/invoke/MethodHandle" ∧ yX3_close.cls ≠ "java/lang/invoke/VarHandle" ∧ (parseMethodDescriptor yX3_close.desc).map (fun d => d.parameters.length) = some 1 := by decide +kernel
theorem hdv_X3_close : yX3_close.cls = RX3 ∧ yX3_close.cls ≠ "java/lang/invoke/MethodHandle" ∧ yX3_close.cls ≠ "java/lang/invoke/VarHandle" ∧ (parseMethodDescriptor yX3_close.desc).map (fun d => d.parameters.length) = some 1 := ⟨rfl, hdn_X3_close⟩
theorem hdn_X3_count : yX3_count.cls ≠ "java/lang/invoke/MethodHandle" ∧ yX3_count.cls ≠ "java/lang/invoke/VarHandle" ∧ (parseMethodDescriptor yX3_count.desc).map (fun d => d.parameters.length) = some 1 := by decide +kernel
theorem hdv_X3_count : yX3_count.cls = RX3 ∧ yX3_count.cls ≠ "java/lang/invoke/MethodHandle" ∧ yX3_count.cls ≠ "java/lang/invoke/VarHandle" ∧ (parseMethodDescriptor yX3_count.desc).map (fun d => d.parameters.length) = some 1 := ⟨rfl, hdn_X3_count⟩
theorem hdn_X3_countsRight : yX3_countsRight.cls ≠ "java/lang/invoke/MethodHandle" ∧ yX3_countsRight.cls ≠ "java/lang/invoke/VarHandle" ∧ (parseMethodDescriptor yX3_countsRight.desc).map (fun d => d.parameters.length) = some 2 := by decide +kernel
theorem hdv_X3_countsRight : yX3_countsRight.cls = RX3 ∧ yX3_countsRight.cls ≠ "java/lang/invoke/MethodHandle" ∧ yX3_countsRight.cls ≠ "java/lang/invoke/VarHandle" ∧ (parseMethodDescriptor yX3_countsRight.desc).map (fun d => d.parameters.length) = some 2 := ⟨rfl, hdn_X3_countsRight⟩
theorem hdn_X3_cut : yX3_cut.cls ≠ "java/lang/invoke/MethodHandle" ∧ yX3_cut.cls ≠ "java/lang/invoke/VarHandle" ∧ (parseMethodDescriptor yX3_cut.desc).map (fun d => d.parameters.length) = some 2 := by decide +kernel
theorem hdv_X3_cut : yX3_cut.cls = RX3 ∧ yX3_cut.cls ≠ "java/lang/invoke/MethodHandle" ∧ yX3_cut.cls ≠ "java/lang/invoke/VarHandle" ∧ (parseMethodDescriptor yX3_cut.desc).map (fun d => d.parameters.length) = some 2 := ⟨rfl, hdn_X3_cut⟩
theorem hdn_X3_end : yX3_end.cls ≠ "java/lang/invoke/MethodHandle" ∧ yX3_end.cls ≠ "java/lang/invoke/VarHandle" ∧ (parseMethodDescriptor yX3_end.desc).map (fun d => d.parameters.length) = some 1 := by decide +kernel
theorem hdv_X3_end : yX3_end.cls = RX3 ∧ yX3_end.cls ≠ "java/lang/invoke/MethodHandle" ∧ yX3_end.cls ≠ "java/lang/invoke/VarHandle" ∧ (parseMethodDescriptor yX3_end.desc).map (fun d => d.parameters.length) = some 1 := ⟨rfl, hdn_X3_end⟩
theorem hdn_X3_find : yX3_find.cls ≠ "java/lang/invoke/MethodHandle" ∧ yX3_find.cls ≠ "java/lang/invoke/VarHandle" ∧ (parseMethodDescriptor yX3_find.desc).map (fun d => d.parameters.length) = some 2 := by decide +kernel
theorem hdv_X3_find : yX3_find.cls = RX3 ∧ yX3_find.cls ≠ "java/lang/invoke/MethodHandle" ∧ yX3_find.cls ≠ "java/lang/invoke/VarHandle" ∧ (parseMethodDescriptor yX3_find.desc).map (fun d => d.parameters.length) = some 2 := ⟨rfl, hdn_X3_find⟩
theorem hdn_X3_head : yX3_head.cls ≠ "java/lang/invoke/MethodHandle" ∧ yX3_head.cls ≠ "java/lang/invoke/VarHandle" ∧ (parseMethodDescriptor yX3_head.desc).map (fun d => d.parameters.length) = some 2 := by decide +kernel
theorem hdv_X3_head : yX3_head.cls = RX3 ∧ yX3_head.cls ≠ "java/lang/invoke/MethodHandle" ∧ yX3_head.cls ≠ "java/lang/invoke/VarHandle" ∧ (parseMethodDescriptor yX3_head.desc).map (fun d => d.parameters.length) = some 2 := ⟨rfl, hdn_X3_head⟩
theorem hdn_X3_inMemory : yX3_inMemory.cls ≠ "java/lang/invoke/MethodHandle" ∧ yX3_inMemory.cls ≠ "java/lang/invoke/VarHandle" ∧ (parseMethodDescriptor yX3_inMemory.desc).map (fun d => d.parameters.length) = some 0 := by decide +kernel
theorem hdv_X3_inMemory : yX3_inMemory.cls = RX3 ∧ yX3_inMemory.cls ≠ "java/lang/invoke/MethodHandle" ∧ yX3_inMemory.cls ≠ "java/lang/invoke/VarHandle" ∧ (parseMethodDescriptor yX3_inMemory.desc).map (fun d => d.parameters.length) = some 0 := ⟨rfl, hdn_X3_inMemory⟩
theorem hdn_X3_isByte : yX3_isByte.cls ≠ "java/lang/invoke/MethodHandle" ∧ yX3_isByte.cls ≠ "java/lang/invoke/VarHandle" ∧ (parseMethodDescriptor yX3_isByte.desc).map (fun d => d.parameters.length) = some 2 := by decide +kernel
theorem hdv_X3_isByte : yX3_isByte.cls = RX3 ∧ yX3_isByte.cls ≠ "java/lang/invoke/MethodHandle" ∧ yX3_isByte.cls ≠ "java/lang/invoke/VarHandle" ∧ (parseMethodDescriptor yX3_isByte.desc).map (fun d => d.parameters.length) = some 2 := ⟨rfl, hdn_X3_isByte⟩
theorem hdn_X3_isFull : yX3_isFull.cls ≠ "java/lang/invoke/MethodHandle" ∧ yX3_isFull.cls ≠ "java/lang/invoke/VarHandle" ∧ (parseMethodDescriptor yX3_isFull.desc).map (fun d => d.parameters.length) = some 1 := by decide +kernel
theorem hdv_X3_isFull : yX3_isFull.cls = RX3 ∧ yX3_isFull.cls ≠ "java/lang/invoke/MethodHandle" ∧ yX3_isFull.cls ≠ "java/lang/invoke/VarHandle" ∧ (parseMethodDescriptor yX3_isFull.desc).map (fun d => d.parameters.length) = some 1 := ⟨rfl, hdn_X3_isFull⟩
theorem hdn_X3_kindOf : yX3_kindOf.cls ≠ "java/lang/invoke/MethodHandle" ∧ yX3_kindOf.cls ≠ "java/lang/invoke/VarHandle" ∧ (parseMethodDescriptor yX3_kindOf.desc).map (fun d => d.parameters.length) = some 1 := by decide +kernel
theorem hdv_X3_kindOf : yX3_kindOf.cls = RX3 ∧ yX3_kindOf.cls ≠ "java/lang/invoke/MethodHandle" ∧ yX3_kindOf.cls ≠ "java/lang/invoke/VarHandle" ∧ (parseMethodDescriptor yX3_kindOf.desc).map (fun d => d.parameters.length) = some 1 := ⟨rfl, hdn_X3_kindOf⟩
theorem hdn_X3_longOf : yX3_longOf.cls ≠ "java/lang/invoke/MethodHandle" ∧ yX3_longOf.cls ≠ "java/lang/invoke/VarHandle" ∧ (parseMethodDescriptor yX3_longOf.desc).map (fun d => d.parameters.length) = some 1 := by decide +kernel
theorem hdv_X3_longOf : yX3_longOf.cls = RX3 ∧ yX3_longOf.cls ≠ "java/lang/invoke/MethodHandle" ∧ yX3_longOf.cls ≠ "java/lang/invoke/VarHandle" ∧ (parseMethodDescriptor yX3_longOf.desc).map (fun d => d.parameters.length) = some 1 := ⟨rfl, hdn_X3_longOf⟩
theorem hdn_X3_look : yX3_look.cls ≠ "java/lang/invoke/MethodHandle" ∧ yX3_look.cls ≠ "java/lang/invoke/VarHandle" ∧ (parseMethodDescriptor yX3_look.desc).map (fun d => d.parameters.length) = some 1 := by decide +kernel
theorem hdv_X3_look : yX3_look.cls = RX3 ∧ yX3_look.cls ≠ "java/lang/invoke/MethodHandle" ∧ yX3_look.cls ≠ "java/lang/invoke/VarHandle" ∧ (parseMethodDescriptor yX3_look.desc).map (fun d => d.parameters.length) = some 1 := ⟨rfl, hdn_X3_look⟩
theorem hdn_X3_poke : yX3_poke.cls ≠ "java/lang/invoke/MethodHandle" ∧ yX3_poke.cls ≠ "java/lang/invoke/VarHandle" ∧ (parseMethodDescriptor yX3_poke.desc).map (fun d => d.parameters.length) = some 3 := by decide +kernel
theorem hdv_X3_poke : yX3_poke.cls = RX3 ∧ yX3_poke.cls ≠ "java/lang/invoke/MethodHandle" ∧ yX3_poke.cls ≠ "java/lang/invoke/VarHandle" ∧ (parseMethodDescriptor yX3_poke.desc).map (fun d => d.parameters.length) = some 3 := ⟨rfl, hdn_X3_poke⟩
theorem hdn_X3_read : yX3_read.cls ≠ "java/lang/invoke/MethodHandle" ∧ yX3_read.cls ≠ "java/lang/invoke/VarHandle" ∧ (parseMethodDescriptor yX3_read.desc).map (fun d => d.parameters.length) = some 0 := by decide +kernel
theorem hdv_X3_read : yX3_read.cls = RX3 ∧ yX3_read.cls ≠ "java/lang/invoke/MethodHandle" ∧ yX3_read.cls ≠ "java/lang/invoke/VarHandle" ∧ (parseMethodDescriptor yX3_read.desc).map (fun d => d.parameters.length) = some 0 := ⟨rfl, hdn_X3_read⟩
theorem hdn_X3_restore : yX3_restore.cls ≠ "java/lang/invoke/MethodHandle" ∧ yX3_restore.cls ≠ "java/lang/invoke/VarHandle" ∧ (parseMethodDescriptor yX3_restore.desc).map (fun d => d.parameters.length) = some 0 := by decide +kernel
theorem hdv_X3_restore : yX3_restore.cls = RX3 ∧ yX3_restore.cls ≠ "java/lang/invoke/MethodHandle" ∧ yX3_restore.cls ≠ "java/lang/invoke/VarHandle" ∧ (parseMethodDescriptor yX3_restore.desc).map (fun d => d.parameters.length) = some 0 := ⟨rfl, hdn_X3_restore⟩
theorem hdn_X3_row : yX3_row.cls ≠ "java/lang/invoke/MethodHandle" ∧ yX3_row.cls ≠ "java/lang/invoke/VarHandle" ∧ (parseMethodDescriptor yX3_row.desc).map (fun d => d.parameters.length) = some 2 := by decide +kernel
theorem hdv_X3_row : yX3_row.cls = RX3 ∧ yX3_row.cls ≠ "java/lang/invoke/MethodHandle" ∧ yX3_row.cls ≠ "java/lang/invoke/VarHandle" ∧ (parseMethodDescriptor yX3_row.desc).map (fun d => d.parameters.length) = some 2 := ⟨rfl, hdn_X3_row⟩
theorem hdn_X3_rowsOf : yX3_rowsOf.cls ≠ "java/lang/invoke/MethodHandle" ∧ yX3_rowsOf.cls ≠ "java/lang/invoke/VarHandle" ∧ (parseMethodDescriptor yX3_rowsOf.desc).map (fun d => d.parameters.length) = some 2 := by decide +kernel
theorem hdv_X3_rowsOf : yX3_rowsOf.cls = RX3 ∧ yX3_rowsOf.cls ≠ "java/lang/invoke/MethodHandle" ∧ yX3_rowsOf.cls ≠ "java/lang/invoke/VarHandle" ∧ (parseMethodDescriptor yX3_rowsOf.desc).map (fun d => d.parameters.length) = some 2 := ⟨rfl, hdn_X3_rowsOf⟩
theorem hdn_X3_start : yX3_start.cls ≠ "java/lang/invoke/MethodHandle" ∧ yX3_start.cls ≠ "java/lang/invoke/VarHandle" ∧ (parseMethodDescriptor yX3_start.desc).map (fun d => d.parameters.length) = some 0 := by decide +kernel
theorem hdv_X3_start : yX3_start.cls = RX3 ∧ yX3_start.cls ≠ "java/lang/invoke/MethodHandle" ∧ yX3_start.cls ≠ "java/lang/invoke/VarHandle" ∧ (parseMethodDescriptor yX3_start.desc).map (fun d => d.parameters.length) = some 0 := ⟨rfl, hdn_X3_start⟩
theorem hdn_X3_sumOf : yX3_sumOf.cls ≠ "java/lang/invoke/MethodHandle" ∧ yX3_sumOf.cls ≠ "java/lang/invoke/VarHandle" ∧ (parseMethodDescriptor yX3_sumOf.desc).map (fun d => d.parameters.length) = some 3 := by decide +kernel
theorem hds_X3_sumOf : yX3_sumOf.cls = RX3 ∧ yX3_sumOf.cls ≠ "java/lang/invoke/MethodHandle" ∧ yX3_sumOf.cls ≠ "java/lang/invoke/VarHandle" ∧ (parseMethodDescriptor yX3_sumOf.desc).map (fun d => d.parameters.length) = some 3 := ⟨rfl, hdn_X3_sumOf⟩
theorem hdn_X3_sync : yX3_sync.cls ≠ "java/lang/invoke/MethodHandle" ∧ yX3_sync.cls ≠ "java/lang/invoke/VarHandle" ∧ (parseMethodDescriptor yX3_sync.desc).map (fun d => d.parameters.length) = some 0 := by decide +kernel
theorem hdv_X3_sync : yX3_sync.cls = RX3 ∧ yX3_sync.cls ≠ "java/lang/invoke/MethodHandle" ∧ yX3_sync.cls ≠ "java/lang/invoke/VarHandle" ∧ (parseMethodDescriptor yX3_sync.desc).map (fun d => d.parameters.length) = some 0 := ⟨rfl, hdn_X3_sync⟩
theorem hdn_X3_thrown : yX3_thrown.cls ≠ "java/lang/invoke/MethodHandle" ∧ yX3_thrown.cls ≠ "java/lang/invoke/VarHandle" ∧ (parseMethodDescriptor yX3_thrown.desc).map (fun d => d.parameters.length) = some 0 := by decide +kernel
theorem hdv_X3_thrown : yX3_thrown.cls = RX3 ∧ yX3_thrown.cls ≠ "java/lang/invoke/MethodHandle" ∧ yX3_thrown.cls ≠ "java/lang/invoke/VarHandle" ∧ (parseMethodDescriptor yX3_thrown.desc).map (fun d => d.parameters.length) = some 0 := ⟨rfl, hdn_X3_thrown⟩
theorem hdn_X3_total : yX3_total.cls ≠ "java/lang/invoke/MethodHandle" ∧ yX3_total.cls ≠ "java/lang/invoke/VarHandle" ∧ (parseMethodDescriptor yX3_total.desc).map (fun d => d.parameters.length) = some 3 := by decide +kernel
theorem hdv_X3_total : yX3_total.cls = RX3 ∧ yX3_total.cls ≠ "java/lang/invoke/MethodHandle" ∧ yX3_total.cls ≠ "java/lang/invoke/VarHandle" ∧ (parseMethodDescriptor yX3_total.desc).map (fun d => d.parameters.length) = some 3 := ⟨rfl, hdn_X3_total⟩
theorem hdn_X3_whole : yX3_whole.cls ≠ "java/lang/invoke/MethodHandle" ∧ yX3_whole.cls ≠ "java/lang/invoke/VarHandle" ∧ (parseMethodDescriptor yX3_whole.desc).map (fun d => d.parameters.length) = some 0 := by decide +kernel
theorem hdv_X3_whole : yX3_whole.cls = RX3 ∧ yX3_whole.cls ≠ "java/lang/invoke/MethodHandle" ∧ yX3_whole.cls ≠ "java/lang/invoke/VarHandle" ∧ (parseMethodDescriptor yX3_whole.desc).map (fun d => d.parameters.length) = some 0 := ⟨rfl, hdn_X3_whole⟩
theorem hdn_X3_within : yX3_within.cls ≠ "java/lang/invoke/MethodHandle" ∧ yX3_within.cls ≠ "java/lang/invoke/VarHandle" ∧ (parseMethodDescriptor yX3_within.desc).map (fun d => d.parameters.length) = some 3 := by decide +kernel
theorem hds_X3_within : yX3_within.cls = RX3 ∧ yX3_within.cls ≠ "java/lang/invoke/MethodHandle" ∧ yX3_within.cls ≠ "java/lang/invoke/VarHandle" ∧ (parseMethodDescriptor yX3_within.desc).map (fun d => d.parameters.length) = some 3 := ⟨rfl, hdn_X3_within⟩
theorem hdn_X3_wrong : yX3_wrong.cls ≠ "java/lang/invoke/MethodHandle" ∧ yX3_wrong.cls ≠ "java/lang/invoke/VarHandle" ∧ (parseMethodDescriptor yX3_wrong.desc).map (fun d => d.parameters.length) = some 0 := by decide +kernel
theorem hdv_X3_wrong : yX3_wrong.cls = RX3 ∧ yX3_wrong.cls ≠ "java/lang/invoke/MethodHandle" ∧ yX3_wrong.cls ≠ "java/lang/invoke/VarHandle" ∧ (parseMethodDescriptor yX3_wrong.desc).map (fun d => d.parameters.length) = some 0 := ⟨rfl, hdn_X3_wrong⟩
set_option maxHeartbeats 4000000 in
set_option maxRecDepth 100000 in
theorem m_X3_thrown (l : Launch) (dC : Nat → ClassId) (dI : Nat → Nat → Nat) (cI cJ : ClassId) (h : Nat) (d1 : Nat) (s1 : Nat) (i1 : Nat) (b1 : Nat) (t1 : Nat) (fD : Nat → Int32) (fS : Nat → Int32) (fI : Nat → Int32) (fB : Nat → Int32) (fT : Nat → Int32) (n : Nat) (R : Nat) (S : Nat) (T : Nat) (bk2 : Int32) (up2 : Int32) (wr : Int32) (th : Int32)  : cP l yX3_thrown wsX3_thrown ({ frames := 0, cells := 0, slots := 0, locals := 0 }) dC dI cI cJ [(h, .inr (4, [.int (nI (32 * n)), .ref d1, .ref s1, .int bk2, .int up2, .ref i1, .ref b1, .int (nI R), .int (nI S), .int wr, .int th, .ref t1, .int (nI T)])), (d1, .inl (cI, 2048, .inl fD)), (s1, .inl (cI, 2048, .inl fS)), (i1, .inl (cI, 2080, .inl fI)), (b1, .inl (cI, 240, .inl fB)), (t1, .inl (cI, 20, .inl fT))] [.ref h] th := by
  refine Met.ofW (cc := cX3_thrown) (maxL := 1) (ret := (some .int)) (by decide) rfl ?_
  intro p e s m args below meth c s₁ B hml hv
  obtain ⟨rfl, hP, hK⟩ := hv
  have hx := B.exec
  have hb := B.bytes
  have hr := B.returns
  have hts := atoms_spec (ws := wsX3_thrown) B.pre
  have hown : s.vm.findClass RX3 = some m.cls := findClass_of_methodNamed B.named
  have hlocks := B.notSynchronized
  have inX3 : ∀ w ∈ wsX30, w ∈ wsX3_thrown := fun w h => (List.mem_cons_of_mem _ (List.mem_append_right _ h))
  have fl33 := hts (.fieldLink RX3 33 "StockLogModel" "thrown" "I") (by decide +kernel)
  have hl := lv_entry ([.ref h]) (n := 1) (Nat.le_of_ble_eq_true rfl)
  rw [lg_entry_eq]
  generalize (lg_sl ([.ref h]) ++ List.replicate (1 - (lg_sl ([.ref h])).length) Slot.unset).toArray = ls at hl ⊢
  have hl : lv_has ls 1 [(0, .ref h)] := hl
  refine lv_aload_n hx hb dX3_thrown_0 rfl (lv_at hl 0 rfl) ?_
  refine k_get (ci := 4) (T := TX3) (N := 13) (C := RX3) hx hb hts inX3 hown hK hP 0 rfl rfl 10 (by decide) fl33 rfl rfl dX3_thrown_1 ?_
  exact k_iretP (ret := none) hx hb hr hlocks rfl rfl dX3_thrown_4
set_option maxHeartbeats 4000000 in
set_option maxRecDepth 100000 in
theorem m_X3_within (l : Launch) (dC : Nat → ClassId) (dI : Nat → Nat → Nat) (cI cJ : ClassId) (x : Int32) (a : Int32) (b : Int32)  : cP l yX3_within wsX3_within ({ frames := 0, cells := 0, slots := 0, locals := 0 }) dC dI cI cJ [] [.int x, .int a, .int b] (mWithin x a b) := by
  refine Met.ofW (cc := cX3_within) (maxL := 3) (ret := (some .boolean)) (by decide) rfl ?_
  intro p e s m args below meth c s₁ B hml hv
  obtain ⟨rfl, hP, hK⟩ := hv
  have hx := B.exec
  have hb := B.bytes
  have hr := B.returns
  have hts := atoms_spec (ws := wsX3_within) B.pre
  have hown : s.vm.findClass RX3 = some m.cls := findClass_of_methodNamed B.named
  have hlocks := B.notSynchronized
  have hl := lv_entry ([.int x, .int a, .int b]) (n := 3) (Nat.le_of_ble_eq_true rfl)
  rw [lg_entry_eq]
  generalize (lg_sl ([.int x, .int a, .int b]) ++ List.replicate (3 - (lg_sl ([.int x, .int a, .int b])).length) Slot.unset).toArray = ls at hl ⊢
  have hl : lv_has ls 3 [(0, .int x), (1, .int a), (2, .int b)] := hl
  refine lv_iload_n hx hb dX3_within_0 rfl (lv_at hl 0 rfl) ?_
  refine lv_iload_n hx hb dX3_within_1 rfl (lv_at hl 1 rfl) ?_
  refine lv_icmp_lt (tgt := 14) hx hb dX3_within_2 (by decide) (fun c1 => ?_) (fun c1 => ?_)
  · refine lv_iconst (v := 0) hx hb dX3_within_14 (by decide) ?_
    exact k_zretP (ret := none) hx hb hr hlocks (by simp only [mWithin, if_pos c1]) (Or.inl rfl) rfl dX3_within_15
  · refine lv_iload_n hx hb dX3_within_5 rfl (lv_at hl 0 rfl) ?_
    refine lv_iload_n hx hb dX3_within_6 rfl (lv_at hl 2 rfl) ?_
    refine lv_icmp_gt (tgt := 14) hx hb dX3_within_7 (by decide) (fun c2 => ?_) (fun c2 => ?_)
    · refine lv_iconst (v := 0) hx hb dX3_within_14 (by decide) ?_
      exact k_zretP (ret := none) hx hb hr hlocks (by simp only [mWithin, if_neg c1, if_pos c2]) (Or.inl rfl) rfl dX3_within_15
    · refine lv_iconst (v := 1) hx hb dX3_within_10 (by decide) ?_
      refine lv_goto (tgt := 15) hx hb dX3_within_11 (by decide) ?_
      exact k_zretP (ret := none) hx hb hr hlocks (by simp only [mWithin, if_neg c1, if_neg c2]) (Or.inr rfl) rfl dX3_within_15
set_option maxHeartbeats 4000000 in
set_option maxRecDepth 100000 in
theorem m_X3_kindOf (l : Launch) (dC : Nat → ClassId) (dI : Nat → Nat → Nat) (cI cJ : ClassId) (h : Nat) (d1 : Nat) (s1 : Nat) (i1 : Nat) (b1 : Nat) (t1 : Nat) (fD : Nat → Int32) (fS : Nat → Int32) (fI : Nat → Int32) (fB : Nat → Int32) (fT : Nat → Int32) (n : Nat) (R : Nat) (S : Nat) (T : Nat) (bk2 : Int32) (up2 : Int32) (wr : Int32) (th : Int32) (k : Nat) (bk : Nat) (hk : k < 240) (hbg : fB k = nI bk) (hbk : bk + 4 < 2080) : cP l yX3_kindOf wsX3_kindOf ({ frames := 0, cells := 0, slots := 0, locals := 0 }) dC dI cI cJ [(h, .inr (4, [.int (nI (32 * n)), .ref d1, .ref s1, .int bk2, .int up2, .ref i1, .ref b1, .int (nI R), .int (nI S), .int wr, .int th, .ref t1, .int (nI T)])), (d1, .inl (cI, 2048, .inl fD)), (s1, .inl (cI, 2048, .inl fS)), (i1, .inl (cI, 2080, .inl fI)), (b1, .inl (cI, 240, .inl fB)), (t1, .inl (cI, 20, .inl fT))] [.ref h, .int (nI k)] (fI (bk + 1)) := by
  refine Met.ofW (cc := cX3_kindOf) (maxL := 2) (ret := (some .int)) (by decide) rfl ?_
  intro p e s m args below meth c s₁ B hml hv
  obtain ⟨rfl, hP, hK⟩ := hv
  have hx := B.exec
  have hb := B.bytes
  have hr := B.returns
  have hts := atoms_spec (ws := wsX3_kindOf) B.pre
  have hown : s.vm.findClass RX3 = some m.cls := findClass_of_methodNamed B.named
  have hlocks := B.notSynchronized
  have inX3 : ∀ w ∈ wsX30, w ∈ wsX3_kindOf := fun w h => (List.mem_cons_of_mem _ (List.mem_append_right _ h))
  have fl20 := hts (.fieldLink RX3 20 "StockLogModel" "image" "[I") (by decide +kernel)
  have fl23 := hts (.fieldLink RX3 23 "StockLogModel" "begin" "[I") (by decide +kernel)
  have hl := lv_entry ([.ref h, .int (nI k)]) (n := 2) (Nat.le_of_ble_eq_true rfl)
  rw [lg_entry_eq]
  generalize (lg_sl ([.ref h, .int (nI k)]) ++ List.replicate (2 - (lg_sl ([.ref h, .int (nI k)])).length) Slot.unset).toArray = ls at hl ⊢
  have hl : lv_has ls 2 [(0, .ref h), (1, .int (nI k))] := hl
  refine lv_aload_n hx hb dX3_kindOf_0 rfl (lv_at hl 0 rfl) ?_
  refine k_get (ci := 4) (T := TX3) (N := 13) (C := RX3) hx hb hts inX3 hown hK hP 0 rfl rfl 5 (by decide) fl20 rfl rfl dX3_kindOf_1 ?_
  refine lv_aload_n hx hb dX3_kindOf_4 rfl (lv_at hl 0 rfl) ?_
  refine k_get (ci := 4) (T := TX3) (N := 13) (C := RX3) hx hb hts inX3 hown hK hP 0 rfl rfl 6 (by decide) fl23 rfl rfl dX3_kindOf_5 ?_
  refine lv_iload_n hx hb dX3_kindOf_8 rfl (lv_at hl 1 rfl) ?_
  refine k_ialdn (i := k) hx hb hK hP 4 rfl (by omega) (by decide) dX3_kindOf_9 ?_
  refine k_nrm (y := nI bk) hbg ?_
  refine lv_iconst (v := 1) hx hb dX3_kindOf_10 (by decide) ?_
  refine lv_iadd hx hb dX3_kindOf_11 ?_
  refine k_nrm (y := nI (bk + 1)) (nI_add bk 1) ?_
  refine k_ialdn (i := bk + 1) hx hb hK hP 3 rfl (by omega) (by decide) dX3_kindOf_12 ?_
  exact k_iretP (ret := none) hx hb hr hlocks rfl rfl dX3_kindOf_13
set_option maxHeartbeats 4000000 in
set_option maxRecDepth 100000 in
theorem m_X3_longOf (l : Launch) (dC : Nat → ClassId) (dI : Nat → Nat → Nat) (cI cJ : ClassId) (h : Nat) (d1 : Nat) (s1 : Nat) (i1 : Nat) (b1 : Nat) (t1 : Nat) (fD : Nat → Int32) (fS : Nat → Int32) (fI : Nat → Int32) (fB : Nat → Int32) (fT : Nat → Int32) (n : Nat) (R : Nat) (S : Nat) (T : Nat) (bk2 : Int32) (up2 : Int32) (wr : Int32) (th : Int32) (k : Nat) (bk : Nat) (lk : Nat) (hk : k < 240) (hbg : fB k = nI bk) (hbk : bk + 4 < 2080) (hlk : fI (bk + 4) = nI lk) : cP l yX3_longOf wsX3_longOf ({ frames := 0, cells := 0, slots := 0, locals := 0 }) dC dI cI cJ [(h, .inr (4, [.int (nI (32 * n)), .ref d1, .ref s1, .int bk2, .int up2, .ref i1, .ref b1, .int (nI R), .int (nI S), .int wr, .int th, .ref t1, .int (nI T)])), (d1, .inl (cI, 2048, .inl fD)), (s1, .inl (cI, 2048, .inl fS)), (i1, .inl (cI, 2080, .inl fI)), (b1, .inl (cI, 240, .inl fB)), (t1, .inl (cI, 20, .inl fT))] [.ref h, .int (nI k)] (nI lk) := by
  refine Met.ofW (cc := cX3_longOf) (maxL := 2) (ret := (some .int)) (by decide) rfl ?_
  intro p e s m args below meth c s₁ B hml hv
  obtain ⟨rfl, hP, hK⟩ := hv
  have hx := B.exec
  have hb := B.bytes
  have hr := B.returns
  have hts := atoms_spec (ws := wsX3_longOf) B.pre
  have hown : s.vm.findClass RX3 = some m.cls := findClass_of_methodNamed B.named
  have hlocks := B.notSynchronized
  have inX3 : ∀ w ∈ wsX30, w ∈ wsX3_longOf := fun w h => (List.mem_cons_of_mem _ (List.mem_append_right _ h))
  have fl20 := hts (.fieldLink RX3 20 "StockLogModel" "image" "[I") (by decide +kernel)
  have fl23 := hts (.fieldLink RX3 23 "StockLogModel" "begin" "[I") (by decide +kernel)
  have hl := lv_entry ([.ref h, .int (nI k)]) (n := 2) (Nat.le_of_ble_eq_true rfl)
  rw [lg_entry_eq]
  generalize (lg_sl ([.ref h, .int (nI k)]) ++ List.replicate (2 - (lg_sl ([.ref h, .int (nI k)])).length) Slot.unset).toArray = ls at hl ⊢
  have hl : lv_has ls 2 [(0, .ref h), (1, .int (nI k))] := hl
  refine lv_aload_n hx hb dX3_longOf_0 rfl (lv_at hl 0 rfl) ?_
  refine k_get (ci := 4) (T := TX3) (N := 13) (C := RX3) hx hb hts inX3 hown hK hP 0 rfl rfl 5 (by decide) fl20 rfl rfl dX3_longOf_1 ?_
  refine lv_aload_n hx hb dX3_longOf_4 rfl (lv_at hl 0 rfl) ?_
  refine k_get (ci := 4) (T := TX3) (N := 13) (C := RX3) hx hb hts inX3 hown hK hP 0 rfl rfl 6 (by decide) fl23 rfl rfl dX3_longOf_5 ?_
  refine lv_iload_n hx hb dX3_longOf_8 rfl (lv_at hl 1 rfl) ?_
  refine k_ialdn (i := k) hx hb hK hP 4 rfl (by omega) (by decide) dX3_longOf_9 ?_
  refine k_nrm (y := nI bk) hbg ?_
  refine lv_iconst (v := 4) hx hb dX3_longOf_10 (by decide) ?_
  refine lv_iadd hx hb dX3_longOf_11 ?_
  refine k_nrm (y := nI (bk + 4)) (nI_add bk 4) ?_
  refine k_ialdn (i := bk + 4) hx hb hK hP 3 rfl (by omega) (by decide) dX3_longOf_12 ?_
  exact k_iretP (ret := none) hx hb hr hlocks hlk rfl dX3_longOf_13
set_option maxHeartbeats 4000000 in
set_option maxRecDepth 100000 in
theorem m_X3_rowsOf (l : Launch) (dC : Nat → ClassId) (dI : Nat → Nat → Nat) (cI cJ : ClassId) (h : Nat) (d1 : Nat) (s1 : Nat) (i1 : Nat) (b1 : Nat) (t1 : Nat) (fD : Nat → Int32) (fS : Nat → Int32) (fI : Nat → Int32) (fB : Nat → Int32) (fT : Nat → Int32) (n : Nat) (R : Nat) (S : Nat) (T : Nat) (bk2 : Int32) (up2 : Int32) (wr : Int32) (th : Int32) (Bg : Nat → Nat) (kind : Int32) (u : Nat) (hB : ∀ j, j < u → fB j = nI (Bg j) ∧ Bg j + 4 < 2080) (hu : u ≤ 240) : cP l yX3_rowsOf wsX3_rowsOf ({ frames := 1, cells := 0, slots := 0, locals := 21 }) dC dI cI cJ [(h, .inr (4, [.int (nI (32 * n)), .ref d1, .ref s1, .int bk2, .int up2, .ref i1, .ref b1, .int (nI R), .int (nI S), .int wr, .int th, .ref t1, .int (nI T)])), (d1, .inl (cI, 2048, .inl fD)), (s1, .inl (cI, 2048, .inl fS)), (i1, .inl (cI, 2080, .inl fI)), (b1, .inl (cI, 240, .inl fB)), (t1, .inl (cI, 20, .inl fT))] [.ref h, .int kind, .int (nI u)] (nI (cN fI Bg kind u)) := by
  refine Met.ofW (cc := cX3_rowsOf) (maxL := 5) (ret := (some .int)) (by decide) rfl ?_
  intro p e s m args below meth c s₁ B hml hv
  obtain ⟨rfl, hP, hK⟩ := hv
  have hx := B.exec
  have hb := B.bytes
  have hr := B.returns
  have hts := atoms_spec (ws := wsX3_rowsOf) B.pre
  have hown : s.vm.findClass RX3 = some m.cls := findClass_of_methodNamed B.named
  have hlocks := B.notSynchronized
  have hl := lv_entry ([.ref h, .int kind, .int (nI u)]) (n := 5) (Nat.le_of_ble_eq_true rfl)
  rw [lg_entry_eq]
  generalize (lg_sl ([.ref h, .int kind, .int (nI u)]) ++ List.replicate (5 - (lg_sl ([.ref h, .int kind, .int (nI u)])).length) Slot.unset).toArray = ls at hl ⊢
  have hl : lv_has ls 5 [(0, .ref h), (1, .int kind), (2, .int (nI u))] := hl
  refine lv_iconst (v := 0) hx hb dX3_rowsOf_0 (by decide) ?_
  refine lv_istore_n (lv' := [(3, .int 0), (0, .ref h), (1, .int kind), (2, .int (nI u))]) hx hb dX3_rowsOf_1 rfl hl (by decide) rfl (fun ls hl => ?_)
  refine lv_iconst (v := 0) hx hb dX3_rowsOf_2 (by decide) ?_
  refine lv_istore (lv' := [(4, .int 0), (3, .int 0), (0, .ref h), (1, .int kind), (2, .int (nI u))]) hx hb dX3_rowsOf_3 hl (by decide) rfl (fun ls hl => ?_)
  have loop5 : ∀ (n9 : Nat) (k : Nat) (q : Nat) (ls : Array Slot), (q = cN fI Bg kind k) → (k ≤ u) → u - k < n9 → lv_has ls 5 [(4, .int (nI k)), (3, .int (nI q)), (0, .ref h), (1, .int kind), (2, .int (nI u))] → W p l e (headSpec wsX3_rowsOf ({ frames := 1, cells := 0, slots := 0, locals := 21 })).room s m ([.ref h, .int kind, .int (nI u)] : List Value).toArray below meth c s.heap [] 0 0 (MQ below (vp_Si (fun x => x = nI (cN fI Bg kind u))) ([.ref h, .int kind, .int (nI u)] : List Value).toArray s 0 0 (fun _ => False)) (F0 m 5 ls []) := by
    intro n9
    induction n9 with
    | zero => intro k q ls hq hku hm; exact absurd hm (Nat.not_lt_zero _)
    | succ n9 ih =>
      intro k q ls hq hku hm hl
      refine lv_iload hx hb dX3_rowsOf_5 (lv_at hl 0 rfl) ?_
      refine lv_iload_n hx hb dX3_rowsOf_7 rfl (lv_at hl 4 rfl) ?_
      refine lv_icmp_ge (tgt := 30) hx hb dX3_rowsOf_8 (by decide) (fun c1 => ?_) (fun c1 => ?_)
      · have nc1 : u ≤ k := (nI_leI (a := u) (b := k) (by omega) (by omega)).mp c1
        refine lv_iload_n hx hb dX3_rowsOf_30 rfl (lv_at hl 1 rfl) ?_
        exact k_iretP (ret := none) hx hb hr hlocks (by rw [hq, show k = u by omega]) rfl dX3_rowsOf_31
      · have nc1 : ¬ u ≤ k := fun h9 => c1 ((nI_leI (a := u) (b := k) (by omega) (by omega)).mpr h9)
        refine lv_aload_n hx hb dX3_rowsOf_11 rfl (lv_at hl 2 rfl) ?_
        refine lv_iload hx hb dX3_rowsOf_12 (lv_at hl 0 rfl) ?_
        refine k_afP (va_runV (rest := []) ⟨hx, hb, hml, hown, hts⟩ (m_X3_kindOf l dC dI cI cJ h d1 s1 i1 b1 t1 fD fS fI fB fT n R S T bk2 up2 wr th k (Bg k) (by omega) (hB k (by omega)).1 (hB k (by omega)).2) (cwV 1 hts gX3_rowsOf_X3_kindOf rfl rfl rfl hdv_X3_kindOf ⟨Nat.le_of_ble_eq_true rfl, Nat.le_of_ble_eq_true rfl⟩) (k_preVP hK hP [0, 1, 2, 3, 4, 5] rfl 0 rfl rfl) rfl rfl hl.1 rfl (lv_room (Nat.le_of_ble_eq_true rfl)) dX3_rowsOf_14 ⟨Nat.le_of_ble_eq_true rfl, Nat.le_of_ble_eq_true rfl⟩) ?_
        refine lv_iload_n hx hb dX3_rowsOf_17 rfl (lv_at hl 3 rfl) ?_
        refine lv_icmp_ne (tgt := 24) hx hb dX3_rowsOf_18 (by decide) (fun c2 => ?_) (fun c2 => ?_)
        · refine lv_iinc (v := nI (k + 1)) (lv' := [(4, .int (nI (k + 1))), (3, .int (nI q)), (0, .ref h), (1, .int kind), (2, .int (nI u))]) hx hb dX3_rowsOf_24 hl (k := 0) rfl (nI_1 k) (by decide) rfl (fun ls hl => ?_)
          refine lv_goto (tgt := 5) hx hb dX3_rowsOf_27 (by decide) ?_
          exact ih (k + 1) q ls (by rw [hq]; simp only [cN, if_neg c2]) (by omega) (by omega) (lv_sub hl [0, 1, 2, 3, 4] rfl)
        · refine lv_iinc (v := nI (q + 1)) (lv' := [(3, .int (nI (q + 1))), (4, .int (nI k)), (0, .ref h), (1, .int kind), (2, .int (nI u))]) hx hb dX3_rowsOf_21 hl (k := 1) rfl (nI_1 q) (by decide) rfl (fun ls hl => ?_)
          refine lv_iinc (v := nI (k + 1)) (lv' := [(4, .int (nI (k + 1))), (3, .int (nI (q + 1))), (0, .ref h), (1, .int kind), (2, .int (nI u))]) hx hb dX3_rowsOf_24 hl (k := 1) rfl (nI_1 k) (by decide) rfl (fun ls hl => ?_)
          refine lv_goto (tgt := 5) hx hb dX3_rowsOf_27 (by decide) ?_
          exact ih (k + 1) (q + 1) ls (by rw [hq]; simp only [cN, if_pos c2]) (by omega) (by omega) (lv_sub hl [0, 1, 2, 3, 4] rfl)
  exact loop5 _ 0 0 ls rfl (Nat.zero_le _) (Nat.lt_succ_self _) (lv_sub hl [0, 1, 2, 3, 4] rfl)
set_option maxHeartbeats 4000000 in
set_option maxRecDepth 100000 in
theorem m_X3_sumOf (l : Launch) (dC : Nat → ClassId) (dI : Nat → Nat → Nat) (cI cJ : ClassId) (a1 : Nat) (N : Nat) (f : Nat → Int32) (xa : Nat) (ya : Nat) (hN : N < 2 ^ 31) (hxy : xa ≤ ya) (hyN : ya ≤ N) : cP l yX3_sumOf wsX3_sumOf ({ frames := 0, cells := 0, slots := 0, locals := 0 }) dC dI cI cJ [(a1, .inl (cI, N, .inl f))] [.ref a1, .int (nI xa), .int (nI ya)] (sN f xa (ya - xa)) := by
  refine Met.ofW (cc := cX3_sumOf) (maxL := 5) (ret := (some .int)) (by decide) rfl ?_
  intro p e s m args below meth c s₁ B hml hv
  obtain ⟨rfl, hP, hK⟩ := hv
  have hx := B.exec
  have hb := B.bytes
  have hr := B.returns
  have hts := atoms_spec (ws := wsX3_sumOf) B.pre
  have hown : s.vm.findClass RX3 = some m.cls := findClass_of_methodNamed B.named
  have hlocks := B.notSynchronized
  have hl := lv_entry ([.ref a1, .int (nI xa), .int (nI ya)]) (n := 5) (Nat.le_of_ble_eq_true rfl)
  rw [lg_entry_eq]
  generalize (lg_sl ([.ref a1, .int (nI xa), .int (nI ya)]) ++ List.replicate (5 - (lg_sl ([.ref a1, .int (nI xa), .int (nI ya)])).length) Slot.unset).toArray = ls at hl ⊢
  have hl : lv_has ls 5 [(0, .ref a1), (1, .int (nI xa)), (2, .int (nI ya))] := hl
  refine lv_iconst (v := 1) hx hb dX3_sumOf_0 (by decide) ?_
  refine lv_istore_n (lv' := [(3, .int 1), (0, .ref a1), (1, .int (nI xa)), (2, .int (nI ya))]) hx hb dX3_sumOf_1 rfl hl (by decide) rfl (fun ls hl => ?_)
  refine lv_iload_n hx hb dX3_sumOf_2 rfl (lv_at hl 2 rfl) ?_
  refine lv_istore (lv' := [(4, .int (nI xa)), (3, .int 1), (0, .ref a1), (1, .int (nI xa)), (2, .int (nI ya))]) hx hb dX3_sumOf_3 hl (by decide) rfl (fun ls hl => ?_)
  have loop5 : ∀ (n9 : Nat) (k : Nat) (z : Int32) (ls : Array Slot), (z = sN f xa (k - xa)) → (xa ≤ k) → (k ≤ ya) → ya - k < n9 → lv_has ls 5 [(4, .int (nI k)), (3, .int z), (0, .ref a1), (1, .int (nI xa)), (2, .int (nI ya))] → W p l e (headSpec wsX3_sumOf ({ frames := 0, cells := 0, slots := 0, locals := 0 })).room s m ([.ref a1, .int (nI xa), .int (nI ya)] : List Value).toArray below meth c s.heap [] 0 0 (MQ below (vp_Si (fun x => x = sN f xa (ya - xa))) ([.ref a1, .int (nI xa), .int (nI ya)] : List Value).toArray s 0 0 (fun _ => False)) (F0 m 5 ls []) := by
    intro n9
    induction n9 with
    | zero => intro k z ls hz hk1 hk2 hm; exact absurd hm (Nat.not_lt_zero _)
    | succ n9 ih =>
      intro k z ls hz hk1 hk2 hm hl
      refine lv_iload hx hb dX3_sumOf_5 (lv_at hl 0 rfl) ?_
      refine lv_iload_n hx hb dX3_sumOf_7 rfl (lv_at hl 4 rfl) ?_
      refine lv_icmp_ge (tgt := 39) hx hb dX3_sumOf_8 (by decide) (fun c1 => ?_) (fun c1 => ?_)
      · have nc1 : ya ≤ k := (nI_leI (a := ya) (b := k) (by omega) (by omega)).mp c1
        refine lv_iload_n hx hb dX3_sumOf_39 rfl (lv_at hl 1 rfl) ?_
        exact k_iretP (ret := none) hx hb hr hlocks (by rw [hz, show k = ya by omega]) rfl dX3_sumOf_40
      · have nc1 : ¬ ya ≤ k := fun h9 => c1 ((nI_leI (a := ya) (b := k) (by omega) (by omega)).mpr h9)
        refine lv_iload_n hx hb dX3_sumOf_11 rfl (lv_at hl 1 rfl) ?_
        refine lv_aload_n hx hb dX3_sumOf_12 rfl (lv_at hl 2 rfl) ?_
        refine lv_iload hx hb dX3_sumOf_13 (lv_at hl 0 rfl) ?_
        refine k_ialdn (i := k) hx hb hK hP 0 rfl (by omega) (by omega) dX3_sumOf_15 ?_
        refine lv_ixor hx hb dX3_sumOf_16 ?_
        refine lv_istore_n (lv' := [(3, .int (z ^^^ (f k))), (4, .int (nI k)), (0, .ref a1), (1, .int (nI xa)), (2, .int (nI ya))]) hx hb dX3_sumOf_17 rfl hl (by decide) rfl (fun ls hl => ?_)
        refine lv_iload_n hx hb dX3_sumOf_18 rfl (lv_at hl 0 rfl) ?_
        refine lv_bipush (v := 7) hx hb dX3_sumOf_19 (by decide) ?_
        refine lv_ishl hx hb dX3_sumOf_21 ?_
        refine lv_iload_n hx hb dX3_sumOf_22 rfl (lv_at hl 0 rfl) ?_
        refine lv_bipush (v := 25) hx hb dX3_sumOf_23 (by decide) ?_
        refine lv_iushr (v := ushr (z ^^^ (f k)) 25) hx hb dX3_sumOf_25 rfl ?_
        refine lv_ior hx hb dX3_sumOf_26 ?_
        refine lv_istore_n (lv' := [(3, .int (((z ^^^ (f k)) <<< (7 &&& 31)) ||| (ushr (z ^^^ (f k)) 25))), (4, .int (nI k)), (0, .ref a1), (1, .int (nI xa)), (2, .int (nI ya))]) hx hb dX3_sumOf_27 rfl hl (by decide) rfl (fun ls hl => ?_)
        refine lv_iload_n hx hb dX3_sumOf_28 rfl (lv_at hl 0 rfl) ?_
        refine lv_ldc hx hb hown (hts (.constant RX3 40 (-2048144777)) (by decide +kernel)) dX3_sumOf_29 ?_
        refine lv_imul hx hb dX3_sumOf_31 ?_
        refine lv_istore_n (lv' := [(3, .int ((((z ^^^ (f k)) <<< (7 &&& 31)) ||| (ushr (z ^^^ (f k)) 25)) * (-2048144777))), (4, .int (nI k)), (0, .ref a1), (1, .int (nI xa)), (2, .int (nI ya))]) hx hb dX3_sumOf_32 rfl hl (by decide) rfl (fun ls hl => ?_)
        refine lv_iinc (v := nI (k + 1)) (lv' := [(4, .int (nI (k + 1))), (3, .int ((((z ^^^ (f k)) <<< (7 &&& 31)) ||| (ushr (z ^^^ (f k)) 25)) * (-2048144777))), (0, .ref a1), (1, .int (nI xa)), (2, .int (nI ya))]) hx hb dX3_sumOf_33 hl (k := 1) rfl (nI_1 k) (by decide) rfl (fun ls hl => ?_)
        refine lv_goto (tgt := 5) hx hb dX3_sumOf_36 (by decide) ?_
        exact ih (k + 1) ((((z ^^^ (f k)) <<< (7 &&& 31)) ||| (ushr (z ^^^ (f k)) 25)) * (-2048144777)) ls (by rw [show k + 1 - xa = (k - xa) + 1 by omega, sN, ← hz, show xa + (k - xa) = k by omega]; rfl) (by omega) (by omega) (by omega) (lv_sub hl [0, 1, 2, 3, 4] rfl)
  exact loop5 _ xa 1 ls (by rw [Nat.sub_self]; rfl) (Nat.le_refl _) hxy (Nat.lt_succ_self _) (lv_sub hl [0, 1, 2, 3, 4] rfl)
set_option maxHeartbeats 4000000 in
set_option maxRecDepth 100000 in
theorem m_X3_isFull (l : Launch) (dC : Nat → ClassId) (dI : Nat → Nat → Nat) (cI cJ : ClassId) (h : Nat) (d1 : Nat) (s1 : Nat) (i1 : Nat) (b1 : Nat) (t1 : Nat) (fD : Nat → Int32) (fS : Nat → Int32) (fI : Nat → Int32) (fB : Nat → Int32) (fT : Nat → Int32) (n : Nat) (R : Nat) (S : Nat) (T : Nat) (bk2 : Int32) (up2 : Int32) (wr : Int32) (th : Int32) (bR : Nat) (t : Nat) (hn : n ≤ 64) (hR9 : R < 239) (hbg : fB R = nI bR) (hbR : bR ≤ 2048) (ht : t ≤ 20) : cP l yX3_isFull wsX3_isFull ({ frames := 0, cells := 0, slots := 0, locals := 0 }) dC dI cI cJ [(h, .inr (4, [.int (nI (32 * n)), .ref d1, .ref s1, .int bk2, .int up2, .ref i1, .ref b1, .int (nI R), .int (nI S), .int wr, .int th, .ref t1, .int (nI T)])), (d1, .inl (cI, 2048, .inl fD)), (s1, .inl (cI, 2048, .inl fS)), (i1, .inl (cI, 2080, .inl fI)), (b1, .inl (cI, 240, .inl fB)), (t1, .inl (cI, 20, .inl fT))] [.ref h, .int (nI t)] (if bR + 9 + t ≤ 32 * n then 0 else 1) := by
  refine Met.ofW (cc := cX3_isFull) (maxL := 2) (ret := (some .boolean)) (by decide) rfl ?_
  intro p e s m args below meth c s₁ B hml hv
  obtain ⟨rfl, hP, hK⟩ := hv
  have hx := B.exec
  have hb := B.bytes
  have hr := B.returns
  have hts := atoms_spec (ws := wsX3_isFull) B.pre
  have hown : s.vm.findClass RX3 = some m.cls := findClass_of_methodNamed B.named
  have hlocks := B.notSynchronized
  have inX3 : ∀ w ∈ wsX30, w ∈ wsX3_isFull := fun w h => (List.mem_cons_of_mem _ (List.mem_append_right _ h))
  have fl23 := hts (.fieldLink RX3 23 "StockLogModel" "begin" "[I") (by decide +kernel)
  have fl29 := hts (.fieldLink RX3 29 "StockLogModel" "size" "I") (by decide +kernel)
  have fl41 := hts (.fieldLink RX3 41 "StockLogModel" "rows" "I") (by decide +kernel)
  have hl := lv_entry ([.ref h, .int (nI t)]) (n := 2) (Nat.le_of_ble_eq_true rfl)
  rw [lg_entry_eq]
  generalize (lg_sl ([.ref h, .int (nI t)]) ++ List.replicate (2 - (lg_sl ([.ref h, .int (nI t)])).length) Slot.unset).toArray = ls at hl ⊢
  have hl : lv_has ls 2 [(0, .ref h), (1, .int (nI t))] := hl
  refine lv_aload_n hx hb dX3_isFull_0 rfl (lv_at hl 0 rfl) ?_
  refine k_get (ci := 4) (T := TX3) (N := 13) (C := RX3) hx hb hts inX3 hown hK hP 0 rfl rfl 6 (by decide) fl23 rfl rfl dX3_isFull_1 ?_
  refine lv_aload_n hx hb dX3_isFull_4 rfl (lv_at hl 0 rfl) ?_
  refine k_get (ci := 4) (T := TX3) (N := 13) (C := RX3) hx hb hts inX3 hown hK hP 0 rfl rfl 7 (by decide) fl41 rfl rfl dX3_isFull_5 ?_
  refine k_ialdn (i := R) hx hb hK hP 4 rfl (by omega) (by decide) dX3_isFull_8 ?_
  refine k_nrm (y := nI bR) hbg ?_
  refine lv_bipush (v := 9) hx hb dX3_isFull_9 (by decide) ?_
  refine lv_iadd hx hb dX3_isFull_11 ?_
  refine k_nrm (y := nI (bR + 9)) (nI_add bR 9) ?_
  refine lv_iload_n hx hb dX3_isFull_12 rfl (lv_at hl 1 rfl) ?_
  refine lv_iadd hx hb dX3_isFull_13 ?_
  refine k_nrm (y := nI ((bR + 9) + t)) (nI_add (bR + 9) t) ?_
  refine lv_aload_n hx hb dX3_isFull_14 rfl (lv_at hl 0 rfl) ?_
  refine k_get (ci := 4) (T := TX3) (N := 13) (C := RX3) hx hb hts inX3 hown hK hP 0 rfl rfl 0 (by decide) fl29 rfl rfl dX3_isFull_15 ?_
  refine lv_icmp_le (tgt := 25) hx hb dX3_isFull_18 (by decide) (fun c1 => ?_) (fun c1 => ?_)
  · have nc1 : ((bR + 9) + t) ≤ (32 * n) := (nI_leI (a := (bR + 9) + t) (b := 32 * n) (by omega) (by omega)).mp c1
    refine lv_iconst (v := 0) hx hb dX3_isFull_25 (by decide) ?_
    exact k_zretP (ret := none) hx hb hr hlocks (by rw [if_pos nc1]) (Or.inl rfl) rfl dX3_isFull_26
  · have nc1 : ¬ ((bR + 9) + t) ≤ (32 * n) := fun h9 => c1 ((nI_leI (a := (bR + 9) + t) (b := 32 * n) (by omega) (by omega)).mpr h9)
    refine lv_iconst (v := 1) hx hb dX3_isFull_21 (by decide) ?_
    refine lv_goto (tgt := 26) hx hb dX3_isFull_22 (by decide) ?_
    exact k_zretP (ret := none) hx hb hr hlocks (by rw [if_neg nc1]) (Or.inr rfl) rfl dX3_isFull_26
set_option maxHeartbeats 4000000 in
set_option maxRecDepth 100000 in
theorem m_X3_head (l : Launch) (dC : Nat → ClassId) (dI : Nat → Nat → Nat) (cI cJ : ClassId) (h : Nat) (d1 : Nat) (s1 : Nat) (i1 : Nat) (b1 : Nat) (t1 : Nat) (fD : Nat → Int32) (fS : Nat → Int32) (fI : Nat → Int32) (fB : Nat → Int32) (fT : Nat → Int32) (n : Nat) (R : Nat) (S : Nat) (T : Nat) (bk2 : Int32) (up2 : Int32) (wr : Int32) (th : Int32) (bR : Nat) (kind : Int32) (t : Nat) (hR9 : R < 239) (hbg : fB R = nI bR) (hbR : bR + 4 < 2080) : cW l yX3_head wsX3_head ({ frames := 0, cells := 0, slots := 0, locals := 0 }) dC dI cI cJ [(h, .inr (4, [.int (nI (32 * n)), .ref d1, .ref s1, .int bk2, .int up2, .ref i1, .ref b1, .int (nI R), .int (nI S), .int wr, .int th, .ref t1, .int (nI T)])), (d1, .inl (cI, 2048, .inl fD)), (s1, .inl (cI, 2048, .inl fS)), (i1, .inl (cI, 2080, .inl fI)), (b1, .inl (cI, 240, .inl fB)), (t1, .inl (cI, 20, .inl fT))] [(h, .inr (4, [.int (nI (32 * n)), .ref d1, .ref s1, .int bk2, .int up2, .ref i1, .ref b1, .int (nI R), .int (nI S), .int wr, .int th, .ref t1, .int (nI T)])), (d1, .inl (cI, 2048, .inl fD)), (s1, .inl (cI, 2048, .inl fS)), (i1, .inl (cI, 2080, .inl (hdN fI bR R kind (nI t)))), (b1, .inl (cI, 240, .inl fB)), (t1, .inl (cI, 20, .inl fT))] [h, d1, s1, i1, b1, t1] [.ref h, .int kind, .int (nI t)] (some (.int (nI (bR + 5)))) := by
  refine Met.ofW (cc := cX3_head) (maxL := 4) (ret := (some .int)) (by decide) rfl ?_
  intro p e s m args below meth c s₁ B hml hv
  obtain ⟨rfl, hP, hK, hD0⟩ := hv
  have hx := B.exec
  have hb := B.bytes
  have hr := B.returns
  have hts := atoms_spec (ws := wsX3_head) B.pre
  have hown : s.vm.findClass RX3 = some m.cls := findClass_of_methodNamed B.named
  have hlocks := B.notSynchronized
  have inX3 : ∀ w ∈ wsX30, w ∈ wsX3_head := fun w h => (List.mem_cons_of_mem _ (List.mem_append_right _ h))
  have fl20 := hts (.fieldLink RX3 20 "StockLogModel" "image" "[I") (by decide +kernel)
  have fl23 := hts (.fieldLink RX3 23 "StockLogModel" "begin" "[I") (by decide +kernel)
  have fl41 := hts (.fieldLink RX3 41 "StockLogModel" "rows" "I") (by decide +kernel)
  have hD : va_D (mA [h, d1, s1, i1, b1, t1]) [(h, .inr (4, [.int (nI (32 * n)), .ref d1, .ref s1, .int bk2, .int up2, .ref i1, .ref b1, .int (nI R), .int (nI S), .int wr, .int th, .ref t1, .int (nI T)])), (d1, .inl (cI, 2048, .inl fD)), (s1, .inl (cI, 2048, .inl fS)), (i1, .inl (cI, 2080, .inl fI)), (b1, .inl (cI, 240, .inl fB)), (t1, .inl (cI, 20, .inl fT))] := k_Dw hD0 rfl
  have hS : va_S (mA [h, d1, s1, i1, b1, t1]) s.heap s.heap [] := va_S.rf
  have hl := lv_entry ([.ref h, .int kind, .int (nI t)]) (n := 4) (Nat.le_of_ble_eq_true rfl)
  rw [lg_entry_eq]
  generalize (lg_sl ([.ref h, .int kind, .int (nI t)]) ++ List.replicate (4 - (lg_sl ([.ref h, .int kind, .int (nI t)])).length) Slot.unset).toArray = ls at hl ⊢
  have hl : lv_has ls 4 [(0, .ref h), (1, .int kind), (2, .int (nI t))] := hl
  refine lv_aload_n hx hb dX3_head_0 rfl (lv_at hl 0 rfl) ?_
  refine k_get (ci := 4) (T := TX3) (N := 13) (C := RX3) hx hb hts inX3 hown hK hP 0 rfl rfl 6 (by decide) fl23 rfl rfl dX3_head_1 ?_
  refine lv_aload_n hx hb dX3_head_4 rfl (lv_at hl 0 rfl) ?_
  refine k_get (ci := 4) (T := TX3) (N := 13) (C := RX3) hx hb hts inX3 hown hK hP 0 rfl rfl 7 (by decide) fl41 rfl rfl dX3_head_5 ?_
  refine k_ialdn (i := R) hx hb hK hP 4 rfl (by omega) (by decide) dX3_head_8 ?_
  refine k_nrm (y := nI bR) hbg ?_
  refine lv_istore_n (lv' := [(3, .int (nI bR)), (0, .ref h), (1, .int kind), (2, .int (nI t))]) hx hb dX3_head_9 rfl hl (by decide) rfl (fun ls hl => ?_)
  refine lv_aload_n hx hb dX3_head_10 rfl (lv_at hl 1 rfl) ?_
  refine k_get (ci := 4) (T := TX3) (N := 13) (C := RX3) hx hb hts inX3 hown hK hP 0 rfl rfl 5 (by decide) fl20 rfl rfl dX3_head_11 ?_
  refine lv_iload_n hx hb dX3_head_14 rfl (lv_at hl 0 rfl) ?_
  refine lv_bipush (v := 90) hx hb dX3_head_15 (by decide) ?_
  refine k_iastn (ws' := [(h, .inr (4, [.int (nI (32 * n)), .ref d1, .ref s1, .int bk2, .int up2, .ref i1, .ref b1, .int (nI R), .int (nI S), .int wr, .int th, .ref t1, .int (nI T)])), (d1, .inl (cI, 2048, .inl fD)), (s1, .inl (cI, 2048, .inl fS)), (i1, .inl (cI, 2080, .inl (upd fI bR 90))), (b1, .inl (cI, 240, .inl fB)), (t1, .inl (cI, 20, .inl fT))]) (j := bR) hx hb hK hP hD hS 3 rfl rfl (by omega) (by decide) dX3_head_17 rfl (fun H locs hP hD hS => ?_)
  refine lv_aload_n hx hb dX3_head_18 rfl (lv_at hl 1 rfl) ?_
  refine k_get (ci := 4) (T := TX3) (N := 13) (C := RX3) hx hb hts inX3 hown hK hP 0 rfl rfl 5 (by decide) fl20 rfl rfl dX3_head_19 ?_
  refine lv_iload_n hx hb dX3_head_22 rfl (lv_at hl 0 rfl) ?_
  refine lv_iconst (v := 1) hx hb dX3_head_23 (by decide) ?_
  refine lv_iadd hx hb dX3_head_24 ?_
  refine k_nrm (y := nI (bR + 1)) (nI_add bR 1) ?_
  refine lv_iload_n hx hb dX3_head_25 rfl (lv_at hl 2 rfl) ?_
  refine k_iastn (ws' := [(h, .inr (4, [.int (nI (32 * n)), .ref d1, .ref s1, .int bk2, .int up2, .ref i1, .ref b1, .int (nI R), .int (nI S), .int wr, .int th, .ref t1, .int (nI T)])), (d1, .inl (cI, 2048, .inl fD)), (s1, .inl (cI, 2048, .inl fS)), (i1, .inl (cI, 2080, .inl (upd (upd fI bR 90) (bR + 1) kind))), (b1, .inl (cI, 240, .inl fB)), (t1, .inl (cI, 20, .inl fT))]) (j := bR + 1) hx hb hK hP hD hS 3 rfl rfl (by omega) (by decide) dX3_head_26 rfl (fun H locs hP hD hS => ?_)
  refine lv_aload_n hx hb dX3_head_27 rfl (lv_at hl 1 rfl) ?_
  refine k_get (ci := 4) (T := TX3) (N := 13) (C := RX3) hx hb hts inX3 hown hK hP 0 rfl rfl 5 (by decide) fl20 rfl rfl dX3_head_28 ?_
  refine lv_iload_n hx hb dX3_head_31 rfl (lv_at hl 0 rfl) ?_
  refine lv_iconst (v := 2) hx hb dX3_head_32 (by decide) ?_
  refine lv_iadd hx hb dX3_head_33 ?_
  refine k_nrm (y := nI (bR + 2)) (nI_add bR 2) ?_
  refine lv_aload_n hx hb dX3_head_34 rfl (lv_at hl 1 rfl) ?_
  refine k_get (ci := 4) (T := TX3) (N := 13) (C := RX3) hx hb hts inX3 hown hK hP 0 rfl rfl 7 (by decide) fl41 rfl rfl dX3_head_35 ?_
  refine lv_iconst (v := 1) hx hb dX3_head_38 (by decide) ?_
  refine lv_iadd hx hb dX3_head_39 ?_
  refine k_nrm (y := nI (R + 1)) (nI_add R 1) ?_
  refine lv_bipush (v := 8) hx hb dX3_head_40 (by decide) ?_
  refine lv_ishr hx hb dX3_head_42 ?_
  refine k_iastn (ws' := [(h, .inr (4, [.int (nI (32 * n)), .ref d1, .ref s1, .int bk2, .int up2, .ref i1, .ref b1, .int (nI R), .int (nI S), .int wr, .int th, .ref t1, .int (nI T)])), (d1, .inl (cI, 2048, .inl fD)), (s1, .inl (cI, 2048, .inl fS)), (i1, .inl (cI, 2080, .inl (upd (upd (upd fI bR 90) (bR + 1) kind) (bR + 2) ((nI (R + 1)) >>> (8 &&& 31))))), (b1, .inl (cI, 240, .inl fB)), (t1, .inl (cI, 20, .inl fT))]) (j := bR + 2) hx hb hK hP hD hS 3 rfl rfl (by omega) (by decide) dX3_head_43 rfl (fun H locs hP hD hS => ?_)
  refine lv_aload_n hx hb dX3_head_44 rfl (lv_at hl 1 rfl) ?_
  refine k_get (ci := 4) (T := TX3) (N := 13) (C := RX3) hx hb hts inX3 hown hK hP 0 rfl rfl 5 (by decide) fl20 rfl rfl dX3_head_45 ?_
  refine lv_iload_n hx hb dX3_head_48 rfl (lv_at hl 0 rfl) ?_
  refine lv_iconst (v := 3) hx hb dX3_head_49 (by decide) ?_
  refine lv_iadd hx hb dX3_head_50 ?_
  refine k_nrm (y := nI (bR + 3)) (nI_add bR 3) ?_
  refine lv_aload_n hx hb dX3_head_51 rfl (lv_at hl 1 rfl) ?_
  refine k_get (ci := 4) (T := TX3) (N := 13) (C := RX3) hx hb hts inX3 hown hK hP 0 rfl rfl 7 (by decide) fl41 rfl rfl dX3_head_52 ?_
  refine lv_iconst (v := 1) hx hb dX3_head_55 (by decide) ?_
  refine lv_iadd hx hb dX3_head_56 ?_
  refine k_nrm (y := nI (R + 1)) (nI_add R 1) ?_
  refine lv_sipush (v := 255) hx hb dX3_head_57 (by decide) ?_
  refine lv_iand hx hb dX3_head_60 ?_
  refine k_iastn (ws' := [(h, .inr (4, [.int (nI (32 * n)), .ref d1, .ref s1, .int bk2, .int up2, .ref i1, .ref b1, .int (nI R), .int (nI S), .int wr, .int th, .ref t1, .int (nI T)])), (d1, .inl (cI, 2048, .inl fD)), (s1, .inl (cI, 2048, .inl fS)), (i1, .inl (cI, 2080, .inl (upd (upd (upd (upd fI bR 90) (bR + 1) kind) (bR + 2) ((nI (R + 1)) >>> (8 &&& 31))) (bR + 3) ((nI (R + 1)) &&& 255)))), (b1, .inl (cI, 240, .inl fB)), (t1, .inl (cI, 20, .inl fT))]) (j := bR + 3) hx hb hK hP hD hS 3 rfl rfl (by omega) (by decide) dX3_head_61 rfl (fun H locs hP hD hS => ?_)
  refine lv_aload_n hx hb dX3_head_62 rfl (lv_at hl 1 rfl) ?_
  refine k_get (ci := 4) (T := TX3) (N := 13) (C := RX3) hx hb hts inX3 hown hK hP 0 rfl rfl 5 (by decide) fl20 rfl rfl dX3_head_63 ?_
  refine lv_iload_n hx hb dX3_head_66 rfl (lv_at hl 0 rfl) ?_
  refine lv_iconst (v := 4) hx hb dX3_head_67 (by decide) ?_
  refine lv_iadd hx hb dX3_head_68 ?_
  refine k_nrm (y := nI (bR + 4)) (nI_add bR 4) ?_
  refine lv_iload_n hx hb dX3_head_69 rfl (lv_at hl 3 rfl) ?_
  refine k_iastn (ws' := [(h, .inr (4, [.int (nI (32 * n)), .ref d1, .ref s1, .int bk2, .int up2, .ref i1, .ref b1, .int (nI R), .int (nI S), .int wr, .int th, .ref t1, .int (nI T)])), (d1, .inl (cI, 2048, .inl fD)), (s1, .inl (cI, 2048, .inl fS)), (i1, .inl (cI, 2080, .inl (upd (upd (upd (upd (upd fI bR 90) (bR + 1) kind) (bR + 2) ((nI (R + 1)) >>> (8 &&& 31))) (bR + 3) ((nI (R + 1)) &&& 255)) (bR + 4) (nI t)))), (b1, .inl (cI, 240, .inl fB)), (t1, .inl (cI, 20, .inl fT))]) (j := bR + 4) hx hb hK hP hD hS 3 rfl rfl (by omega) (by decide) dX3_head_70 rfl (fun H locs hP hD hS => ?_)
  refine lv_iload_n hx hb dX3_head_71 rfl (lv_at hl 0 rfl) ?_
  refine lv_iconst (v := 5) hx hb dX3_head_72 (by decide) ?_
  refine lv_iadd hx hb dX3_head_73 ?_
  refine k_nrm (y := nI (bR + 5)) (nI_add bR 5) ?_
  exact k_iretW hx hb hr hlocks hP hS rfl rfl dX3_head_74
set_option maxHeartbeats 4000000 in
set_option maxRecDepth 100000 in
theorem m_X3_close (l : Launch) (dC : Nat → ClassId) (dI : Nat → Nat → Nat) (cI cJ : ClassId) (h : Nat) (d1 : Nat) (s1 : Nat) (i1 : Nat) (b1 : Nat) (t1 : Nat) (fD : Nat → Int32) (fS : Nat → Int32) (fI : Nat → Int32) (fB : Nat → Int32) (fT : Nat → Int32) (n : Nat) (R : Nat) (S : Nat) (T : Nat) (bk2 : Int32) (up2 : Int32) (wr : Int32) (th : Int32) (bR : Nat) (b : Nat) (hR9 : R < 239) (hbg : fB R = nI bR) (hb1 : bR + 1 ≤ b) (hb2 : b + 3 < 2080) : cW l yX3_close wsX3_close ({ frames := 1, cells := 0, slots := 0, locals := 24 }) dC dI cI cJ [(h, .inr (4, [.int (nI (32 * n)), .ref d1, .ref s1, .int bk2, .int up2, .ref i1, .ref b1, .int (nI R), .int (nI S), .int wr, .int th, .ref t1, .int (nI T)])), (d1, .inl (cI, 2048, .inl fD)), (s1, .inl (cI, 2048, .inl fS)), (i1, .inl (cI, 2080, .inl fI)), (b1, .inl (cI, 240, .inl fB)), (t1, .inl (cI, 20, .inl fT))] [(h, .inr (4, [.int (nI (32 * n)), .ref d1, .ref s1, .int bk2, .int up2, .ref i1, .ref b1, .int (nI (R + 1)), .int (nI S), .int wr, .int th, .ref t1, .int (nI T)])), (d1, .inl (cI, 2048, .inl fD)), (s1, .inl (cI, 2048, .inl fS)), (i1, .inl (cI, 2080, .inl (clN fI b (sN fI (bR + 1) (b - (bR + 1))) 4))), (b1, .inl (cI, 240, .inl (upd fB (R + 1) (nI (b + 4))))), (t1, .inl (cI, 20, .inl fT))] [h, d1, s1, i1, b1, t1] [.ref h, .int (nI b)] none := by
  refine Met.ofW (cc := cX3_close) (maxL := 4) (ret := none) (by decide) rfl ?_
  intro p e s m args below meth c s₁ B hml hv
  obtain ⟨rfl, hP, hK, hD0⟩ := hv
  have hx := B.exec
  have hb := B.bytes
  have hr := B.returns
  have hts := atoms_spec (ws := wsX3_close) B.pre
  have hown : s.vm.findClass RX3 = some m.cls := findClass_of_methodNamed B.named
  have hlocks := B.notSynchronized
  have inX3 : ∀ w ∈ wsX30, w ∈ wsX3_close := fun w h => (List.mem_cons_of_mem _ (List.mem_append_right _ h))
  have fl20 := hts (.fieldLink RX3 20 "StockLogModel" "image" "[I") (by decide +kernel)
  have fl23 := hts (.fieldLink RX3 23 "StockLogModel" "begin" "[I") (by decide +kernel)
  have fl41 := hts (.fieldLink RX3 41 "StockLogModel" "rows" "I") (by decide +kernel)
  have hD : va_D (mA [h, d1, s1, i1, b1, t1]) [(h, .inr (4, [.int (nI (32 * n)), .ref d1, .ref s1, .int bk2, .int up2, .ref i1, .ref b1, .int (nI R), .int (nI S), .int wr, .int th, .ref t1, .int (nI T)])), (d1, .inl (cI, 2048, .inl fD)), (s1, .inl (cI, 2048, .inl fS)), (i1, .inl (cI, 2080, .inl fI)), (b1, .inl (cI, 240, .inl fB)), (t1, .inl (cI, 20, .inl fT))] := k_Dw hD0 rfl
  have hS : va_S (mA [h, d1, s1, i1, b1, t1]) s.heap s.heap [] := va_S.rf
  have hl := lv_entry ([.ref h, .int (nI b)]) (n := 4) (Nat.le_of_ble_eq_true rfl)
  rw [lg_entry_eq]
  generalize (lg_sl ([.ref h, .int (nI b)]) ++ List.replicate (4 - (lg_sl ([.ref h, .int (nI b)])).length) Slot.unset).toArray = ls at hl ⊢
  have hl : lv_has ls 4 [(0, .ref h), (1, .int (nI b))] := hl
  refine lv_aload_n hx hb dX3_close_0 rfl (lv_at hl 0 rfl) ?_
  refine k_get (ci := 4) (T := TX3) (N := 13) (C := RX3) hx hb hts inX3 hown hK hP 0 rfl rfl 5 (by decide) fl20 rfl rfl dX3_close_1 ?_
  refine lv_aload_n hx hb dX3_close_4 rfl (lv_at hl 0 rfl) ?_
  refine k_get (ci := 4) (T := TX3) (N := 13) (C := RX3) hx hb hts inX3 hown hK hP 0 rfl rfl 6 (by decide) fl23 rfl rfl dX3_close_5 ?_
  refine lv_aload_n hx hb dX3_close_8 rfl (lv_at hl 0 rfl) ?_
  refine k_get (ci := 4) (T := TX3) (N := 13) (C := RX3) hx hb hts inX3 hown hK hP 0 rfl rfl 7 (by decide) fl41 rfl rfl dX3_close_9 ?_
  refine k_ialdn (i := R) hx hb hK hP 4 rfl (by omega) (by decide) dX3_close_12 ?_
  refine k_nrm (y := nI bR) hbg ?_
  refine lv_iconst (v := 1) hx hb dX3_close_13 (by decide) ?_
  refine lv_iadd hx hb dX3_close_14 ?_
  refine k_nrm (y := nI (bR + 1)) (nI_add bR 1) ?_
  refine lv_iload_n hx hb dX3_close_15 rfl (lv_at hl 1 rfl) ?_
  refine k_afP (va_runS (rest := []) ⟨hx, hb, hml, hown, hts⟩ (m_X3_sumOf l dC dI cI cJ i1 2080 fI (bR + 1) b (by omega) (by omega) (by omega)) (cwS 3 hts gX3_close_X3_sumOf rfl rfl rfl hds_X3_sumOf ⟨Nat.le_of_ble_eq_true rfl, Nat.le_of_ble_eq_true rfl⟩) (k_preSP hK hP [3] rfl) rfl rfl hl.1 rfl (lv_room (Nat.le_of_ble_eq_true rfl)) dX3_close_16 ⟨Nat.le_of_ble_eq_true rfl, Nat.le_of_ble_eq_true rfl⟩) ?_
  refine lv_istore_n (lv' := [(2, .int (sN fI (bR + 1) (b - (bR + 1)))), (0, .ref h), (1, .int (nI b))]) hx hb dX3_close_19 rfl hl (by decide) rfl (fun ls hl => ?_)
  refine lv_iconst (v := 0) hx hb dX3_close_20 (by decide) ?_
  refine lv_istore_n (lv' := [(3, .int 0), (2, .int (sN fI (bR + 1) (b - (bR + 1)))), (0, .ref h), (1, .int (nI b))]) hx hb dX3_close_21 rfl hl (by decide) rfl (fun ls hl => ?_)
  have loop22 : ∀ (n9 : Nat) (k : Nat) (x : Nat → Int32) (H : Heap) (locs : List Loc) (ls : Array Slot), (x = clN fI b (sN fI (bR + 1) (b - (bR + 1))) k) → (k ≤ 4) → 4 - k < n9 → va_P (dC, dI) vwCl [(h, .inr (4, [.int (nI (32 * n)), .ref d1, .ref s1, .int bk2, .int up2, .ref i1, .ref b1, .int (nI R), .int (nI S), .int wr, .int th, .ref t1, .int (nI T)])), (d1, .inl (cI, 2048, .inl fD)), (s1, .inl (cI, 2048, .inl fS)), (i1, .inl (cI, 2080, .inl x)), (b1, .inl (cI, 240, .inl fB)), (t1, .inl (cI, 20, .inl fT))] H → va_D (mA [h, d1, s1, i1, b1, t1]) [(h, .inr (4, [.int (nI (32 * n)), .ref d1, .ref s1, .int bk2, .int up2, .ref i1, .ref b1, .int (nI R), .int (nI S), .int wr, .int th, .ref t1, .int (nI T)])), (d1, .inl (cI, 2048, .inl fD)), (s1, .inl (cI, 2048, .inl fS)), (i1, .inl (cI, 2080, .inl x)), (b1, .inl (cI, 240, .inl fB)), (t1, .inl (cI, 20, .inl fT))] → va_S (mA [h, d1, s1, i1, b1, t1]) s.heap H locs → lv_has ls 4 [(3, .int (nI k)), (2, .int (sN fI (bR + 1) (b - (bR + 1)))), (0, .ref h), (1, .int (nI b))] → W p l e (headSpec wsX3_close ({ frames := 1, cells := 0, slots := 0, locals := 24 })).room s m ([.ref h, .int (nI b)] : List Value).toArray below meth c H locs 0 0 (MQ below (mQ dC dI [(h, .inr (4, [.int (nI (32 * n)), .ref d1, .ref s1, .int bk2, .int up2, .ref i1, .ref b1, .int (nI (R + 1)), .int (nI S), .int wr, .int th, .ref t1, .int (nI T)])), (d1, .inl (cI, 2048, .inl fD)), (s1, .inl (cI, 2048, .inl fS)), (i1, .inl (cI, 2080, .inl (clN fI b (sN fI (bR + 1) (b - (bR + 1))) 4))), (b1, .inl (cI, 240, .inl (upd fB (R + 1) (nI (b + 4))))), (t1, .inl (cI, 20, .inl fT))] [h, d1, s1, i1, b1, t1] none) ([.ref h, .int (nI b)] : List Value).toArray s 0 0 (mA [h, d1, s1, i1, b1, t1])) (F0 m 22 ls []) := by
    intro n9
    induction n9 with
    | zero => intro k x H locs ls hx9 hk4 hm; exact absurd hm (Nat.not_lt_zero _)
    | succ n9 ih =>
      intro k x H locs ls hx9 hk4 hm hP hD hS hl
      refine lv_iload_n hx hb dX3_close_22 rfl (lv_at hl 0 rfl) ?_
      refine lv_iconst (v := 4) hx hb dX3_close_23 (by decide) ?_
      refine lv_icmp_ge (tgt := 54) hx hb dX3_close_24 (by decide) (fun c1 => ?_) (fun c1 => ?_)
      · have nc1 : 4 ≤ k := (nI_leI (a := 4) (b := k) (by omega) (by omega)).mp c1
        refine lv_aload_n hx hb dX3_close_54 rfl (lv_at hl 2 rfl) ?_
        refine lv_dup hx hb dX3_close_55 rfl ?_
        refine k_get (ci := 4) (T := TX3) (N := 13) (C := RX3) hx hb hts inX3 hown hK hP 0 rfl rfl 7 (by decide) fl41 rfl rfl dX3_close_56 ?_
        refine lv_iconst (v := 1) hx hb dX3_close_59 (by decide) ?_
        refine lv_iadd hx hb dX3_close_60 ?_
        refine k_nrm (y := nI (R + 1)) (nI_add R 1) ?_
        refine k_putf (ws' := [(h, .inr (4, [.int (nI (32 * n)), .ref d1, .ref s1, .int bk2, .int up2, .ref i1, .ref b1, .int (nI (R + 1)), .int (nI S), .int wr, .int th, .ref t1, .int (nI T)])), (d1, .inl (cI, 2048, .inl fD)), (s1, .inl (cI, 2048, .inl fS)), (i1, .inl (cI, 2080, .inl x)), (b1, .inl (cI, 240, .inl fB)), (t1, .inl (cI, 20, .inl fT))]) (ci := 4) (T := TX3) (N := 13) (C := RX3) (ty := .int) hx hb hts inX3 tyX3 tyX3_ok nmX3 hown hK hP hD hS 0 rfl rfl 7 (by decide) fl41 rfl rfl rfl rfl rfl (Nat.le_of_ble_eq_true rfl) dX3_close_61 rfl (fun H locs hP hD hS => ?_)
        refine lv_aload_n hx hb dX3_close_64 rfl (lv_at hl 2 rfl) ?_
        refine k_get (ci := 4) (T := TX3) (N := 13) (C := RX3) hx hb hts inX3 hown hK hP 0 rfl rfl 6 (by decide) fl23 rfl rfl dX3_close_65 ?_
        refine lv_aload_n hx hb dX3_close_68 rfl (lv_at hl 2 rfl) ?_
        refine k_get (ci := 4) (T := TX3) (N := 13) (C := RX3) hx hb hts inX3 hown hK hP 0 rfl rfl 7 (by decide) fl41 rfl rfl dX3_close_69 ?_
        refine lv_iload_n hx hb dX3_close_72 rfl (lv_at hl 3 rfl) ?_
        refine lv_iconst (v := 4) hx hb dX3_close_73 (by decide) ?_
        refine lv_iadd hx hb dX3_close_74 ?_
        refine k_nrm (y := nI (b + 4)) (nI_add b 4) ?_
        refine k_iastn (ws' := [(h, .inr (4, [.int (nI (32 * n)), .ref d1, .ref s1, .int bk2, .int up2, .ref i1, .ref b1, .int (nI (R + 1)), .int (nI S), .int wr, .int th, .ref t1, .int (nI T)])), (d1, .inl (cI, 2048, .inl fD)), (s1, .inl (cI, 2048, .inl fS)), (i1, .inl (cI, 2080, .inl x)), (b1, .inl (cI, 240, .inl (upd fB (R + 1) (nI (b + 4))))), (t1, .inl (cI, 20, .inl fT))]) (j := R + 1) hx hb hK hP hD hS 4 rfl rfl (by omega) (by decide) dX3_close_75 rfl (fun H locs hP hD hS => ?_)
        exact k_vretW hx hb hr hlocks hP hS (by rw [hx9, show k = 4 by omega]) dX3_close_76
      · have nc1 : ¬ 4 ≤ k := fun h9 => c1 ((nI_leI (a := 4) (b := k) (by omega) (by omega)).mpr h9)
        refine lv_aload_n hx hb dX3_close_27 rfl (lv_at hl 2 rfl) ?_
        refine k_get (ci := 4) (T := TX3) (N := 13) (C := RX3) hx hb hts inX3 hown hK hP 0 rfl rfl 5 (by decide) fl20 rfl rfl dX3_close_28 ?_
        refine lv_iload_n hx hb dX3_close_31 rfl (lv_at hl 3 rfl) ?_
        refine lv_iload_n hx hb dX3_close_32 rfl (lv_at hl 0 rfl) ?_
        refine lv_iadd hx hb dX3_close_33 ?_
        refine k_nrm (y := nI (b + k)) (nI_add b k) ?_
        refine lv_iload_n hx hb dX3_close_34 rfl (lv_at hl 1 rfl) ?_
        refine lv_bipush (v := 24) hx hb dX3_close_35 (by decide) ?_
        refine lv_bipush (v := 8) hx hb dX3_close_37 (by decide) ?_
        refine lv_iload_n hx hb dX3_close_39 rfl (lv_at hl 0 rfl) ?_
        refine lv_imul hx hb dX3_close_40 ?_
        refine k_nrm (y := nI (8 * k)) (pk_mul 8 k) ?_
        refine lv_isub hx hb dX3_close_41 ?_
        refine lv_iushr (v := ushr (sN fI (bR + 1) (b - (bR + 1))) (24 - (nI (8 * k)))) hx hb dX3_close_42 rfl ?_
        refine lv_sipush (v := 255) hx hb dX3_close_43 (by decide) ?_
        refine lv_iand hx hb dX3_close_46 ?_
        refine k_iastn (ws' := [(h, .inr (4, [.int (nI (32 * n)), .ref d1, .ref s1, .int bk2, .int up2, .ref i1, .ref b1, .int (nI R), .int (nI S), .int wr, .int th, .ref t1, .int (nI T)])), (d1, .inl (cI, 2048, .inl fD)), (s1, .inl (cI, 2048, .inl fS)), (i1, .inl (cI, 2080, .inl (upd x (b + k) ((ushr (sN fI (bR + 1) (b - (bR + 1))) (24 - (nI (8 * k)))) &&& 255)))), (b1, .inl (cI, 240, .inl fB)), (t1, .inl (cI, 20, .inl fT))]) (j := b + k) hx hb hK hP hD hS 3 rfl rfl (by omega) (by decide) dX3_close_47 rfl (fun H locs hP hD hS => ?_)
        refine lv_iinc (v := nI (k + 1)) (lv' := [(3, .int (nI (k + 1))), (2, .int (sN fI (bR + 1) (b - (bR + 1)))), (0, .ref h), (1, .int (nI b))]) hx hb dX3_close_48 hl (k := 0) rfl (nI_1 k) (by decide) rfl (fun ls hl => ?_)
        refine lv_goto (tgt := 22) hx hb dX3_close_51 (by decide) ?_
        exact ih (k + 1) (upd x (b + k) ((ushr (sN fI (bR + 1) (b - (bR + 1))) (24 - (nI (8 * k)))) &&& 255)) _ _ ls (by rw [hx9]; rfl) (by omega) (by omega) hP hD hS (lv_sub hl [0, 1, 2, 3] rfl)
  exact loop22 _ 0 fI _ _ ls rfl (by decide) (Nat.lt_succ_self _) hP hD hS (lv_sub hl [0, 1, 2, 3] rfl)
set_option maxHeartbeats 4000000 in
set_option maxRecDepth 100000 in
theorem m_X3_inMemory (l : Launch) (dC : Nat → ClassId) (dI : Nat → Nat → Nat) (cI cJ : ClassId) (h : Nat) (d1 : Nat) (s1 : Nat) (i1 : Nat) (b1 : Nat) (t1 : Nat) (fD : Nat → Int32) (fS : Nat → Int32) (fI : Nat → Int32) (fB : Nat → Int32) (fT : Nat → Int32) (n : Nat) (R : Nat) (S : Nat) (T : Nat) (bk2 : Int32) (up2 : Int32) (wr : Int32) (th : Int32) (bR : Nat) (bS : Nat) (hR9 : R < 239) (hS9 : S ≤ R) (hbg : fB R = nI bR) (hbs : fB S = nI bS) (hbR : bR ≤ 2048) (hbS : bS ≤ bR) : cP l yX3_inMemory wsX3_inMemory ({ frames := 0, cells := 0, slots := 0, locals := 0 }) dC dI cI cJ [(h, .inr (4, [.int (nI (32 * n)), .ref d1, .ref s1, .int bk2, .int up2, .ref i1, .ref b1, .int (nI R), .int (nI S), .int wr, .int th, .ref t1, .int (nI T)])), (d1, .inl (cI, 2048, .inl fD)), (s1, .inl (cI, 2048, .inl fS)), (i1, .inl (cI, 2080, .inl fI)), (b1, .inl (cI, 240, .inl fB)), (t1, .inl (cI, 20, .inl fT))] [.ref h] (nI (bR - bS)) := by
  refine Met.ofW (cc := cX3_inMemory) (maxL := 1) (ret := (some .int)) (by decide) rfl ?_
  intro p e s m args below meth c s₁ B hml hv
  obtain ⟨rfl, hP, hK⟩ := hv
  have hx := B.exec
  have hb := B.bytes
  have hr := B.returns
  have hts := atoms_spec (ws := wsX3_inMemory) B.pre
  have hown : s.vm.findClass RX3 = some m.cls := findClass_of_methodNamed B.named
  have hlocks := B.notSynchronized
  have inX3 : ∀ w ∈ wsX30, w ∈ wsX3_inMemory := fun w h => (List.mem_cons_of_mem _ (List.mem_append_right _ h))
  have fl23 := hts (.fieldLink RX3 23 "StockLogModel" "begin" "[I") (by decide +kernel)
  have fl41 := hts (.fieldLink RX3 41 "StockLogModel" "rows" "I") (by decide +kernel)
  have fl70 := hts (.fieldLink RX3 70 "StockLogModel" "synced" "I") (by decide +kernel)
  have hl := lv_entry ([.ref h]) (n := 1) (Nat.le_of_ble_eq_true rfl)
  rw [lg_entry_eq]
  generalize (lg_sl ([.ref h]) ++ List.replicate (1 - (lg_sl ([.ref h])).length) Slot.unset).toArray = ls at hl ⊢
  have hl : lv_has ls 1 [(0, .ref h)] := hl
  refine lv_aload_n hx hb dX3_inMemory_0 rfl (lv_at hl 0 rfl) ?_
  refine k_get (ci := 4) (T := TX3) (N := 13) (C := RX3) hx hb hts inX3 hown hK hP 0 rfl rfl 6 (by decide) fl23 rfl rfl dX3_inMemory_1 ?_
  refine lv_aload_n hx hb dX3_inMemory_4 rfl (lv_at hl 0 rfl) ?_
  refine k_get (ci := 4) (T := TX3) (N := 13) (C := RX3) hx hb hts inX3 hown hK hP 0 rfl rfl 7 (by decide) fl41 rfl rfl dX3_inMemory_5 ?_
  refine k_ialdn (i := R) hx hb hK hP 4 rfl (by omega) (by decide) dX3_inMemory_8 ?_
  refine k_nrm (y := nI bR) hbg ?_
  refine lv_aload_n hx hb dX3_inMemory_9 rfl (lv_at hl 0 rfl) ?_
  refine k_get (ci := 4) (T := TX3) (N := 13) (C := RX3) hx hb hts inX3 hown hK hP 0 rfl rfl 6 (by decide) fl23 rfl rfl dX3_inMemory_10 ?_
  refine lv_aload_n hx hb dX3_inMemory_13 rfl (lv_at hl 0 rfl) ?_
  refine k_get (ci := 4) (T := TX3) (N := 13) (C := RX3) hx hb hts inX3 hown hK hP 0 rfl rfl 8 (by decide) fl70 rfl rfl dX3_inMemory_14 ?_
  refine k_ialdn (i := S) hx hb hK hP 4 rfl (by omega) (by decide) dX3_inMemory_17 ?_
  refine k_nrm (y := nI bS) hbs ?_
  refine lv_isub hx hb dX3_inMemory_18 ?_
  refine k_nrm (y := nI (bR - bS)) (pk_sub (a := bR) (b := bS) (by omega)) ?_
  exact k_iretP (ret := none) hx hb hr hlocks rfl rfl dX3_inMemory_19
set_option maxHeartbeats 4000000 in
set_option maxRecDepth 100000 in
theorem m_X3_add (l : Launch) (dC : Nat → ClassId) (dI : Nat → Nat → Nat) (cI cJ : ClassId) (h : Nat) (d1 : Nat) (s1 : Nat) (i1 : Nat) (b1 : Nat) (t1 : Nat) (fD : Nat → Int32) (fS : Nat → Int32) (fI : Nat → Int32) (fB : Nat → Int32) (fT : Nat → Int32) (n : Nat) (R : Nat) (S : Nat) (T : Nat) (bk2 : Int32) (up2 : Int32) (wr : Int32) (th : Int32) (b : Int32) (hT9 : T ≤ 20) : cW l yX3_add wsX3_add ({ frames := 1, cells := 0, slots := 0, locals := 22 }) dC dI cI cJ [(h, .inr (4, [.int (nI (32 * n)), .ref d1, .ref s1, .int bk2, .int up2, .ref i1, .ref b1, .int (nI R), .int (nI S), .int wr, .int th, .ref t1, .int (nI T)])), (d1, .inl (cI, 2048, .inl fD)), (s1, .inl (cI, 2048, .inl fS)), (i1, .inl (cI, 2080, .inl fI)), (b1, .inl (cI, 240, .inl fB)), (t1, .inl (cI, 20, .inl fT))] [(h, .inr (4, [.int (nI (32 * n)), .ref d1, .ref s1, .int bk2, .int up2, .ref i1, .ref b1, .int (nI R), .int (nI S), .int wr, .int (thAdd up2 T b), .ref t1, .int (nI (if thAdd up2 T b = 0 then T + 1 else T))])), (d1, .inl (cI, 2048, .inl fD)), (s1, .inl (cI, 2048, .inl fS)), (i1, .inl (cI, 2080, .inl fI)), (b1, .inl (cI, 240, .inl fB)), (t1, .inl (cI, 20, .inl (if thAdd up2 T b = 0 then upd fT T b else fT)))] [h, d1, s1, i1, b1, t1] [.ref h, .int b] (some (.int (if thAdd up2 T b = 0 then nI (T + 1) else 0))) := by
  refine Met.ofW (cc := cX3_add) (maxL := 2) (ret := (some .int)) (by decide) rfl ?_
  intro p e s m args below meth c s₁ B hml hv
  obtain ⟨rfl, hP, hK, hD0⟩ := hv
  have hx := B.exec
  have hb := B.bytes
  have hr := B.returns
  have hts := atoms_spec (ws := wsX3_add) B.pre
  have hown : s.vm.findClass RX3 = some m.cls := findClass_of_methodNamed B.named
  have hlocks := B.notSynchronized
  have inX3 : ∀ w ∈ wsX30, w ∈ wsX3_add := fun w h => (List.mem_cons_of_mem _ (List.mem_append_right _ h))
  have fl16 := hts (.fieldLink RX3 16 "StockLogModel" "up" "Z") (by decide +kernel)
  have fl26 := hts (.fieldLink RX3 26 "StockLogModel" "told" "[I") (by decide +kernel)
  have fl33 := hts (.fieldLink RX3 33 "StockLogModel" "thrown" "I") (by decide +kernel)
  have fl52 := hts (.fieldLink RX3 52 "StockLogModel" "toldMany" "I") (by decide +kernel)
  have hD : va_D (mA [h, d1, s1, i1, b1, t1]) [(h, .inr (4, [.int (nI (32 * n)), .ref d1, .ref s1, .int bk2, .int up2, .ref i1, .ref b1, .int (nI R), .int (nI S), .int wr, .int th, .ref t1, .int (nI T)])), (d1, .inl (cI, 2048, .inl fD)), (s1, .inl (cI, 2048, .inl fS)), (i1, .inl (cI, 2080, .inl fI)), (b1, .inl (cI, 240, .inl fB)), (t1, .inl (cI, 20, .inl fT))] := k_Dw hD0 rfl
  have hS : va_S (mA [h, d1, s1, i1, b1, t1]) s.heap s.heap [] := va_S.rf
  have hl := lv_entry ([.ref h, .int b]) (n := 2) (Nat.le_of_ble_eq_true rfl)
  rw [lg_entry_eq]
  generalize (lg_sl ([.ref h, .int b]) ++ List.replicate (2 - (lg_sl ([.ref h, .int b])).length) Slot.unset).toArray = ls at hl ⊢
  have hl : lv_has ls 2 [(0, .ref h), (1, .int b)] := hl
  refine lv_aload_n hx hb dX3_add_0 rfl (lv_at hl 0 rfl) ?_
  refine lv_iload_n hx hb dX3_add_1 rfl (lv_at hl 1 rfl) ?_
  refine lv_iconst (v := 0) hx hb dX3_add_2 (by decide) ?_
  refine lv_sipush (v := 255) hx hb dX3_add_3 (by decide) ?_
  refine k_afP (va_runS (rest := [.ref h]) ⟨hx, hb, hml, hown, hts⟩ (m_X3_within l dC dI cI cJ b 0 255 ) (cwS 3 hts gX3_add_X3_within rfl rfl rfl hds_X3_within ⟨Nat.le_of_ble_eq_true rfl, Nat.le_of_ble_eq_true rfl⟩) (k_preSP hK hP [] rfl) rfl rfl hl.1 rfl (lv_room (Nat.le_of_ble_eq_true rfl)) dX3_add_6 ⟨Nat.le_of_ble_eq_true rfl, Nat.le_of_ble_eq_true rfl⟩) ?_
  refine lv_if_ne (tgt := 16) hx hb dX3_add_9 (by decide) (fun c1 => ?_) (fun c1 => ?_)
  · refine lv_aload_n hx hb dX3_add_16 rfl (lv_at hl 0 rfl) ?_
    refine k_get (ci := 4) (T := TX3) (N := 13) (C := RX3) hx hb hts inX3 hown hK hP 0 rfl rfl 4 (by decide) fl16 rfl rfl dX3_add_17 ?_
    refine lv_if_ne (tgt := 27) hx hb dX3_add_20 (by decide) (fun c2 => ?_) (fun c2 => ?_)
    · refine lv_aload_n hx hb dX3_add_27 rfl (lv_at hl 0 rfl) ?_
      refine k_get (ci := 4) (T := TX3) (N := 13) (C := RX3) hx hb hts inX3 hown hK hP 0 rfl rfl 12 (by decide) fl52 rfl rfl dX3_add_28 ?_
      refine lv_bipush (v := 20) hx hb dX3_add_31 (by decide) ?_
      refine lv_icmp_ne (tgt := 40) hx hb dX3_add_33 (by decide) (fun c3 => ?_) (fun c3 => ?_)
      · have nc3 : ¬ T = 20 := fun h9 => c3 ((nI_eq (a := T) (b := 20) (by omega) (by omega)).mpr h9)
        refine lv_iconst (v := 0) hx hb dX3_add_40 (by decide) ?_
        refine k_putf (ws' := [(h, .inr (4, [.int (nI (32 * n)), .ref d1, .ref s1, .int bk2, .int up2, .ref i1, .ref b1, .int (nI R), .int (nI S), .int wr, .int 0, .ref t1, .int (nI T)])), (d1, .inl (cI, 2048, .inl fD)), (s1, .inl (cI, 2048, .inl fS)), (i1, .inl (cI, 2080, .inl fI)), (b1, .inl (cI, 240, .inl fB)), (t1, .inl (cI, 20, .inl fT))]) (ci := 4) (T := TX3) (N := 13) (C := RX3) (ty := .int) hx hb hts inX3 tyX3 tyX3_ok nmX3 hown hK hP hD hS 0 rfl rfl 10 (by decide) fl33 rfl rfl rfl rfl rfl (Nat.le_of_ble_eq_true rfl) dX3_add_41 rfl (fun H locs hP hD hS => ?_)
        refine lv_aload_n hx hb dX3_add_44 rfl (lv_at hl 0 rfl) ?_
        refine k_get (ci := 4) (T := TX3) (N := 13) (C := RX3) hx hb hts inX3 hown hK hP 0 rfl rfl 10 (by decide) fl33 rfl rfl dX3_add_45 ?_
        refine lv_if_eq (tgt := 53) hx hb dX3_add_48 (by decide) (fun c4 => ?_) (fun c4 => ?_)
        · refine lv_aload_n hx hb dX3_add_53 rfl (lv_at hl 0 rfl) ?_
          refine k_get (ci := 4) (T := TX3) (N := 13) (C := RX3) hx hb hts inX3 hown hK hP 0 rfl rfl 11 (by decide) fl26 rfl rfl dX3_add_54 ?_
          refine lv_aload_n hx hb dX3_add_57 rfl (lv_at hl 0 rfl) ?_
          refine k_get (ci := 4) (T := TX3) (N := 13) (C := RX3) hx hb hts inX3 hown hK hP 0 rfl rfl 12 (by decide) fl52 rfl rfl dX3_add_58 ?_
          refine lv_iload_n hx hb dX3_add_61 rfl (lv_at hl 1 rfl) ?_
          refine k_iastn (ws' := [(h, .inr (4, [.int (nI (32 * n)), .ref d1, .ref s1, .int bk2, .int up2, .ref i1, .ref b1, .int (nI R), .int (nI S), .int wr, .int 0, .ref t1, .int (nI T)])), (d1, .inl (cI, 2048, .inl fD)), (s1, .inl (cI, 2048, .inl fS)), (i1, .inl (cI, 2080, .inl fI)), (b1, .inl (cI, 240, .inl fB)), (t1, .inl (cI, 20, .inl (upd fT T b)))]) (j := T) hx hb hK hP hD hS 5 rfl rfl (by omega) (by decide) dX3_add_62 rfl (fun H locs hP hD hS => ?_)
          refine lv_aload_n hx hb dX3_add_63 rfl (lv_at hl 0 rfl) ?_
          refine lv_dup hx hb dX3_add_64 rfl ?_
          refine k_get (ci := 4) (T := TX3) (N := 13) (C := RX3) hx hb hts inX3 hown hK hP 0 rfl rfl 12 (by decide) fl52 rfl rfl dX3_add_65 ?_
          refine lv_iconst (v := 1) hx hb dX3_add_68 (by decide) ?_
          refine lv_iadd hx hb dX3_add_69 ?_
          refine k_nrm (y := nI (T + 1)) (nI_add T 1) ?_
          refine k_putf (ws' := [(h, .inr (4, [.int (nI (32 * n)), .ref d1, .ref s1, .int bk2, .int up2, .ref i1, .ref b1, .int (nI R), .int (nI S), .int wr, .int 0, .ref t1, .int (nI (T + 1))])), (d1, .inl (cI, 2048, .inl fD)), (s1, .inl (cI, 2048, .inl fS)), (i1, .inl (cI, 2080, .inl fI)), (b1, .inl (cI, 240, .inl fB)), (t1, .inl (cI, 20, .inl (upd fT T b)))]) (ci := 4) (T := TX3) (N := 13) (C := RX3) (ty := .int) hx hb hts inX3 tyX3 tyX3_ok nmX3 hown hK hP hD hS 0 rfl rfl 12 (by decide) fl52 rfl rfl rfl rfl rfl (Nat.le_of_ble_eq_true rfl) dX3_add_70 rfl (fun H locs hP hD hS => ?_)
          refine lv_aload_n hx hb dX3_add_73 rfl (lv_at hl 0 rfl) ?_
          refine k_get (ci := 4) (T := TX3) (N := 13) (C := RX3) hx hb hts inX3 hown hK hP 0 rfl rfl 12 (by decide) fl52 rfl rfl dX3_add_74 ?_
          exact k_iretW hx hb hr hlocks hP hS (by have hth : thAdd up2 T b = 0 := (by simp only [thAdd, if_neg c1, if_neg c2, if_neg c3, if_pos c4]); (simp only [hth, il0, il1, il2, il3, if_true, if_false]) <;> (rfl)) (by have hth : thAdd up2 T b = 0 := (by simp only [thAdd, if_neg c1, if_neg c2, if_neg c3, if_pos c4]); (simp only [hth, il0, il1, il2, il3, if_true, if_false]) <;> (rfl)) dX3_add_77
        · exact absurd c4 (by decide)
      · have nc3 : T = 20 := (nI_eq (a := T) (b := 20) (by omega) (by omega)).mp c3
        refine lv_iconst (v := 3) hx hb dX3_add_36 (by decide) ?_
        refine lv_goto (tgt := 41) hx hb dX3_add_37 (by decide) ?_
        refine k_putf (ws' := [(h, .inr (4, [.int (nI (32 * n)), .ref d1, .ref s1, .int bk2, .int up2, .ref i1, .ref b1, .int (nI R), .int (nI S), .int wr, .int 3, .ref t1, .int (nI T)])), (d1, .inl (cI, 2048, .inl fD)), (s1, .inl (cI, 2048, .inl fS)), (i1, .inl (cI, 2080, .inl fI)), (b1, .inl (cI, 240, .inl fB)), (t1, .inl (cI, 20, .inl fT))]) (ci := 4) (T := TX3) (N := 13) (C := RX3) (ty := .int) hx hb hts inX3 tyX3 tyX3_ok nmX3 hown hK hP hD hS 0 rfl rfl 10 (by decide) fl33 rfl rfl rfl rfl rfl (Nat.le_of_ble_eq_true rfl) dX3_add_41 rfl (fun H locs hP hD hS => ?_)
        refine lv_aload_n hx hb dX3_add_44 rfl (lv_at hl 0 rfl) ?_
        refine k_get (ci := 4) (T := TX3) (N := 13) (C := RX3) hx hb hts inX3 hown hK hP 0 rfl rfl 10 (by decide) fl33 rfl rfl dX3_add_45 ?_
        refine lv_if_eq (tgt := 53) hx hb dX3_add_48 (by decide) (fun c5 => ?_) (fun c5 => ?_)
        · exact absurd c5 (by decide)
        · refine lv_iconst (v := 0) hx hb dX3_add_51 (by decide) ?_
          exact k_iretW hx hb hr hlocks hP hS (by have hth : thAdd up2 T b = 3 := (by simp only [thAdd, if_neg c1, if_neg c2, if_pos c3, if_neg c5]); (simp only [hth, il0, il1, il2, il3, if_true, if_false]) <;> rfl) (by have hth : thAdd up2 T b = 3 := (by simp only [thAdd, if_neg c1, if_neg c2, if_pos c3, if_neg c5]); (simp only [hth, il0, il1, il2, il3, if_true, if_false]) <;> rfl) dX3_add_52
    · refine lv_iconst (v := 2) hx hb dX3_add_23 (by decide) ?_
      refine lv_goto (tgt := 41) hx hb dX3_add_24 (by decide) ?_
      refine k_putf (ws' := [(h, .inr (4, [.int (nI (32 * n)), .ref d1, .ref s1, .int bk2, .int up2, .ref i1, .ref b1, .int (nI R), .int (nI S), .int wr, .int 2, .ref t1, .int (nI T)])), (d1, .inl (cI, 2048, .inl fD)), (s1, .inl (cI, 2048, .inl fS)), (i1, .inl (cI, 2080, .inl fI)), (b1, .inl (cI, 240, .inl fB)), (t1, .inl (cI, 20, .inl fT))]) (ci := 4) (T := TX3) (N := 13) (C := RX3) (ty := .int) hx hb hts inX3 tyX3 tyX3_ok nmX3 hown hK hP hD hS 0 rfl rfl 10 (by decide) fl33 rfl rfl rfl rfl rfl (Nat.le_of_ble_eq_true rfl) dX3_add_41 rfl (fun H locs hP hD hS => ?_)
      refine lv_aload_n hx hb dX3_add_44 rfl (lv_at hl 0 rfl) ?_
      refine k_get (ci := 4) (T := TX3) (N := 13) (C := RX3) hx hb hts inX3 hown hK hP 0 rfl rfl 10 (by decide) fl33 rfl rfl dX3_add_45 ?_
      refine lv_if_eq (tgt := 53) hx hb dX3_add_48 (by decide) (fun c6 => ?_) (fun c6 => ?_)
      · exact absurd c6 (by decide)
      · refine lv_iconst (v := 0) hx hb dX3_add_51 (by decide) ?_
        exact k_iretW hx hb hr hlocks hP hS (by have hth : thAdd up2 T b = 2 := (by simp only [thAdd, if_neg c1, if_pos c2, if_neg c6]); (simp only [hth, il0, il1, il2, il3, if_true, if_false]) <;> rfl) (by have hth : thAdd up2 T b = 2 := (by simp only [thAdd, if_neg c1, if_pos c2, if_neg c6]); (simp only [hth, il0, il1, il2, il3, if_true, if_false]) <;> rfl) dX3_add_52
  · refine lv_iconst (v := 1) hx hb dX3_add_12 (by decide) ?_
    refine lv_goto (tgt := 41) hx hb dX3_add_13 (by decide) ?_
    refine k_putf (ws' := [(h, .inr (4, [.int (nI (32 * n)), .ref d1, .ref s1, .int bk2, .int up2, .ref i1, .ref b1, .int (nI R), .int (nI S), .int wr, .int 1, .ref t1, .int (nI T)])), (d1, .inl (cI, 2048, .inl fD)), (s1, .inl (cI, 2048, .inl fS)), (i1, .inl (cI, 2080, .inl fI)), (b1, .inl (cI, 240, .inl fB)), (t1, .inl (cI, 20, .inl fT))]) (ci := 4) (T := TX3) (N := 13) (C := RX3) (ty := .int) hx hb hts inX3 tyX3 tyX3_ok nmX3 hown hK hP hD hS 0 rfl rfl 10 (by decide) fl33 rfl rfl rfl rfl rfl (Nat.le_of_ble_eq_true rfl) dX3_add_41 rfl (fun H locs hP hD hS => ?_)
    refine lv_aload_n hx hb dX3_add_44 rfl (lv_at hl 0 rfl) ?_
    refine k_get (ci := 4) (T := TX3) (N := 13) (C := RX3) hx hb hts inX3 hown hK hP 0 rfl rfl 10 (by decide) fl33 rfl rfl dX3_add_45 ?_
    refine lv_if_eq (tgt := 53) hx hb dX3_add_48 (by decide) (fun c7 => ?_) (fun c7 => ?_)
    · exact absurd c7 (by decide)
    · refine lv_iconst (v := 0) hx hb dX3_add_51 (by decide) ?_
      exact k_iretW hx hb hr hlocks hP hS (by have hth : thAdd up2 T b = 1 := (by simp only [thAdd, if_pos c1, if_neg c7]); (simp only [hth, il0, il1, il2, il3, if_true, if_false]) <;> rfl) (by have hth : thAdd up2 T b = 1 := (by simp only [thAdd, if_pos c1, if_neg c7]); (simp only [hth, il0, il1, il2, il3, if_true, if_false]) <;> rfl) dX3_add_52
set_option maxHeartbeats 4000000 in
set_option maxRecDepth 100000 in
theorem m_X3_end (l : Launch) (dC : Nat → ClassId) (dI : Nat → Nat → Nat) (cI cJ : ClassId) (h : Nat) (d1 : Nat) (s1 : Nat) (i1 : Nat) (b1 : Nat) (t1 : Nat) (fD : Nat → Int32) (fS : Nat → Int32) (fI : Nat → Int32) (fB : Nat → Int32) (fT : Nat → Int32) (n : Nat) (R : Nat) (S : Nat) (T : Nat) (bk2 : Int32) (up2 : Int32) (wr : Int32) (th : Int32) (bR : Nat) (kind : Int32) (hn : n ≤ 64) (hR9 : R ≤ 227) (hbg : fB R = nI bR) (hbR : bR ≤ 32 * n) (hT9 : T ≤ 20) : cW l yX3_end wsX3_end ({ frames := 2, cells := 0, slots := 0, locals := 47 }) dC dI cI cJ [(h, .inr (4, [.int (nI (32 * n)), .ref d1, .ref s1, .int bk2, .int up2, .ref i1, .ref b1, .int (nI R), .int (nI S), .int wr, .int th, .ref t1, .int (nI T)])), (d1, .inl (cI, 2048, .inl fD)), (s1, .inl (cI, 2048, .inl fS)), (i1, .inl (cI, 2080, .inl fI)), (b1, .inl (cI, 240, .inl fB)), (t1, .inl (cI, 20, .inl fT))] [(h, .inr (4, [.int (nI (32 * n)), .ref d1, .ref s1, .int bk2, .int up2, .ref i1, .ref b1, .int (nI (if thEnd n bR T up2 kind = 0 then R + 1 else R)), .int (nI S), .int wr, .int (thEnd n bR T up2 kind), .ref t1, .int (nI (if thEnd n bR T up2 kind = 0 then 0 else T))])), (d1, .inl (cI, 2048, .inl fD)), (s1, .inl (cI, 2048, .inl fS)), (i1, .inl (cI, 2080, .inl (if thEnd n bR T up2 kind = 0 then enI (enF fI fT bR R T kind) bR (bR + 5 + T) else fI))), (b1, .inl (cI, 240, .inl (if thEnd n bR T up2 kind = 0 then upd fB (R + 1) (nI (bR + 5 + T + 4)) else fB))), (t1, .inl (cI, 20, .inl fT))] [h, d1, s1, i1, b1, t1] [.ref h, .int kind] (some (.int (if thEnd n bR T up2 kind = 0 then nI (R + 1) else 0))) := by
  refine Met.ofW (cc := cX3_end) (maxL := 4) (ret := (some .int)) (by decide) rfl ?_
  intro p e s m args below meth c s₁ B hml hv
  obtain ⟨rfl, hP, hK, hD0⟩ := hv
  have hx := B.exec
  have hb := B.bytes
  have hr := B.returns
  have hts := atoms_spec (ws := wsX3_end) B.pre
  have hown : s.vm.findClass RX3 = some m.cls := findClass_of_methodNamed B.named
  have hlocks := B.notSynchronized
  have inX3 : ∀ w ∈ wsX30, w ∈ wsX3_end := fun w h => (List.mem_cons_of_mem _ (List.mem_append_right _ h))
  have fl16 := hts (.fieldLink RX3 16 "StockLogModel" "up" "Z") (by decide +kernel)
  have fl20 := hts (.fieldLink RX3 20 "StockLogModel" "image" "[I") (by decide +kernel)
  have fl26 := hts (.fieldLink RX3 26 "StockLogModel" "told" "[I") (by decide +kernel)
  have fl33 := hts (.fieldLink RX3 33 "StockLogModel" "thrown" "I") (by decide +kernel)
  have fl41 := hts (.fieldLink RX3 41 "StockLogModel" "rows" "I") (by decide +kernel)
  have fl52 := hts (.fieldLink RX3 52 "StockLogModel" "toldMany" "I") (by decide +kernel)
  have hD : va_D (mA [h, d1, s1, i1, b1, t1]) [(h, .inr (4, [.int (nI (32 * n)), .ref d1, .ref s1, .int bk2, .int up2, .ref i1, .ref b1, .int (nI R), .int (nI S), .int wr, .int th, .ref t1, .int (nI T)])), (d1, .inl (cI, 2048, .inl fD)), (s1, .inl (cI, 2048, .inl fS)), (i1, .inl (cI, 2080, .inl fI)), (b1, .inl (cI, 240, .inl fB)), (t1, .inl (cI, 20, .inl fT))] := k_Dw hD0 rfl
  have hS : va_S (mA [h, d1, s1, i1, b1, t1]) s.heap s.heap [] := va_S.rf
  have hl := lv_entry ([.ref h, .int kind]) (n := 4) (Nat.le_of_ble_eq_true rfl)
  rw [lg_entry_eq]
  generalize (lg_sl ([.ref h, .int kind]) ++ List.replicate (4 - (lg_sl ([.ref h, .int kind])).length) Slot.unset).toArray = ls at hl ⊢
  have hl : lv_has ls 4 [(0, .ref h), (1, .int kind)] := hl
  refine lv_aload_n hx hb dX3_end_0 rfl (lv_at hl 0 rfl) ?_
  refine lv_iload_n hx hb dX3_end_1 rfl (lv_at hl 1 rfl) ?_
  refine lv_iconst (v := 1) hx hb dX3_end_2 (by decide) ?_
  refine lv_iconst (v := 4) hx hb dX3_end_3 (by decide) ?_
  refine k_afP (va_runS (rest := [.ref h]) ⟨hx, hb, hml, hown, hts⟩ (m_X3_within l dC dI cI cJ kind 1 4 ) (cwS 3 hts gX3_end_X3_within rfl rfl rfl hds_X3_within ⟨Nat.le_of_ble_eq_true rfl, Nat.le_of_ble_eq_true rfl⟩) (k_preSP hK hP [] rfl) rfl rfl hl.1 rfl (lv_room (Nat.le_of_ble_eq_true rfl)) dX3_end_4 ⟨Nat.le_of_ble_eq_true rfl, Nat.le_of_ble_eq_true rfl⟩) ?_
  refine lv_if_ne (tgt := 14) hx hb dX3_end_7 (by decide) (fun c1 => ?_) (fun c1 => ?_)
  · refine lv_aload_n hx hb dX3_end_14 rfl (lv_at hl 0 rfl) ?_
    refine k_get (ci := 4) (T := TX3) (N := 13) (C := RX3) hx hb hts inX3 hown hK hP 0 rfl rfl 4 (by decide) fl16 rfl rfl dX3_end_15 ?_
    refine lv_if_ne (tgt := 25) hx hb dX3_end_18 (by decide) (fun c2 => ?_) (fun c2 => ?_)
    · refine lv_aload_n hx hb dX3_end_25 rfl (lv_at hl 0 rfl) ?_
      refine lv_aload_n hx hb dX3_end_26 rfl (lv_at hl 0 rfl) ?_
      refine k_get (ci := 4) (T := TX3) (N := 13) (C := RX3) hx hb hts inX3 hown hK hP 0 rfl rfl 12 (by decide) fl52 rfl rfl dX3_end_27 ?_
      refine k_afP (va_runV (rest := [.ref h]) ⟨hx, hb, hml, hown, hts⟩ (m_X3_isFull l dC dI cI cJ h d1 s1 i1 b1 t1 fD fS fI fB fT n R S T bk2 up2 wr th bR T (by omega) (by omega) hbg (by omega) (by omega)) (cwV 1 hts gX3_end_X3_isFull rfl rfl rfl hdv_X3_isFull ⟨Nat.le_of_ble_eq_true rfl, Nat.le_of_ble_eq_true rfl⟩) (k_preVP hK hP [0, 1, 2, 3, 4, 5] rfl 0 rfl rfl) rfl rfl hl.1 rfl (lv_room (Nat.le_of_ble_eq_true rfl)) dX3_end_30 ⟨Nat.le_of_ble_eq_true rfl, Nat.le_of_ble_eq_true rfl⟩) ?_
      refine lv_if_eq (tgt := 40) hx hb dX3_end_33 (by decide) (fun c3 => ?_) (fun c3 => ?_)
      · have hfit := k_fit c3
        refine lv_iconst (v := 0) hx hb dX3_end_40 (by decide) ?_
        refine k_putf (ws' := [(h, .inr (4, [.int (nI (32 * n)), .ref d1, .ref s1, .int bk2, .int up2, .ref i1, .ref b1, .int (nI R), .int (nI S), .int wr, .int 0, .ref t1, .int (nI T)])), (d1, .inl (cI, 2048, .inl fD)), (s1, .inl (cI, 2048, .inl fS)), (i1, .inl (cI, 2080, .inl fI)), (b1, .inl (cI, 240, .inl fB)), (t1, .inl (cI, 20, .inl fT))]) (ci := 4) (T := TX3) (N := 13) (C := RX3) (ty := .int) hx hb hts inX3 tyX3 tyX3_ok nmX3 hown hK hP hD hS 0 rfl rfl 10 (by decide) fl33 rfl rfl rfl rfl rfl (Nat.le_of_ble_eq_true rfl) dX3_end_41 rfl (fun H locs hP hD hS => ?_)
        refine lv_aload_n hx hb dX3_end_44 rfl (lv_at hl 0 rfl) ?_
        refine k_get (ci := 4) (T := TX3) (N := 13) (C := RX3) hx hb hts inX3 hown hK hP 0 rfl rfl 10 (by decide) fl33 rfl rfl dX3_end_45 ?_
        refine lv_if_eq (tgt := 53) hx hb dX3_end_48 (by decide) (fun c4 => ?_) (fun c4 => ?_)
        · refine lv_aload_n hx hb dX3_end_53 rfl (lv_at hl 0 rfl) ?_
          refine lv_iload_n hx hb dX3_end_54 rfl (lv_at hl 1 rfl) ?_
          refine lv_aload_n hx hb dX3_end_55 rfl (lv_at hl 0 rfl) ?_
          refine k_get (ci := 4) (T := TX3) (N := 13) (C := RX3) hx hb hts inX3 hown hK hP 0 rfl rfl 12 (by decide) fl52 rfl rfl dX3_end_56 ?_
          refine k_afW (wc := [(h, .inr (4, [.int (nI (32 * n)), .ref d1, .ref s1, .int bk2, .int up2, .ref i1, .ref b1, .int (nI R), .int (nI S), .int wr, .int 0, .ref t1, .int (nI T)])), (d1, .inl (cI, 2048, .inl fD)), (s1, .inl (cI, 2048, .inl fS)), (i1, .inl (cI, 2080, .inl fI)), (b1, .inl (cI, 240, .inl fB)), (t1, .inl (cI, 20, .inl fT))]) (ws' := [(h, .inr (4, [.int (nI (32 * n)), .ref d1, .ref s1, .int bk2, .int up2, .ref i1, .ref b1, .int (nI R), .int (nI S), .int wr, .int 0, .ref t1, .int (nI T)])), (d1, .inl (cI, 2048, .inl fD)), (s1, .inl (cI, 2048, .inl fS)), (i1, .inl (cI, 2080, .inl (hdN fI bR R kind (nI T)))), (b1, .inl (cI, 240, .inl fB)), (t1, .inl (cI, 20, .inl fT))]) (va_runV (rest := []) ⟨hx, hb, hml, hown, hts⟩ (m_X3_head l dC dI cI cJ h d1 s1 i1 b1 t1 fD fS fI fB fT n R S T bk2 up2 wr 0 bR kind T (by omega) hbg (by omega)) (cwV 2 hts gX3_end_X3_head rfl rfl rfl hdv_X3_head ⟨Nat.le_of_ble_eq_true rfl, Nat.le_of_ble_eq_true rfl⟩) (k_preVW hK hP hD [0, 1, 2, 3, 4, 5] rfl rfl 0 rfl rfl) rfl rfl hl.1 rfl (lv_room (Nat.le_of_ble_eq_true rfl)) dX3_end_59 ⟨Nat.le_of_ble_eq_true rfl, Nat.le_of_ble_eq_true rfl⟩) hP hD hS [0, 1, 2, 3, 4, 5] rfl rfl rfl rfl (fun H locs hP hD hS => ?_)
          refine lv_istore_n (lv' := [(2, .int (nI (bR + 5))), (0, .ref h), (1, .int kind)]) hx hb dX3_end_62 rfl hl (by decide) rfl (fun ls hl => ?_)
          refine lv_iconst (v := 0) hx hb dX3_end_63 (by decide) ?_
          refine lv_istore_n (lv' := [(3, .int 0), (2, .int (nI (bR + 5))), (0, .ref h), (1, .int kind)]) hx hb dX3_end_64 rfl hl (by decide) rfl (fun ls hl => ?_)
          have loop65 : ∀ (n9 : Nat) (k : Nat) (x : Nat → Int32) (H : Heap) (locs : List Loc) (ls : Array Slot), (x = bdN (hdN fI bR R kind (nI T)) fT (bR + 5) k) → (k ≤ T) → T - k < n9 → va_P (dC, dI) vwCl [(h, .inr (4, [.int (nI (32 * n)), .ref d1, .ref s1, .int bk2, .int up2, .ref i1, .ref b1, .int (nI R), .int (nI S), .int wr, .int 0, .ref t1, .int (nI T)])), (d1, .inl (cI, 2048, .inl fD)), (s1, .inl (cI, 2048, .inl fS)), (i1, .inl (cI, 2080, .inl x)), (b1, .inl (cI, 240, .inl fB)), (t1, .inl (cI, 20, .inl fT))] H → va_D (mA [h, d1, s1, i1, b1, t1]) [(h, .inr (4, [.int (nI (32 * n)), .ref d1, .ref s1, .int bk2, .int up2, .ref i1, .ref b1, .int (nI R), .int (nI S), .int wr, .int 0, .ref t1, .int (nI T)])), (d1, .inl (cI, 2048, .inl fD)), (s1, .inl (cI, 2048, .inl fS)), (i1, .inl (cI, 2080, .inl x)), (b1, .inl (cI, 240, .inl fB)), (t1, .inl (cI, 20, .inl fT))] → va_S (mA [h, d1, s1, i1, b1, t1]) s.heap H locs → lv_has ls 4 [(3, .int (nI k)), (2, .int (nI (bR + 5))), (0, .ref h), (1, .int kind)] → W p l e (headSpec wsX3_end ({ frames := 2, cells := 0, slots := 0, locals := 47 })).room s m ([.ref h, .int kind] : List Value).toArray below meth c H locs 0 0 (MQ below (mQ dC dI [(h, .inr (4, [.int (nI (32 * n)), .ref d1, .ref s1, .int bk2, .int up2, .ref i1, .ref b1, .int (nI (if thEnd n bR T up2 kind = 0 then R + 1 else R)), .int (nI S), .int wr, .int (thEnd n bR T up2 kind), .ref t1, .int (nI (if thEnd n bR T up2 kind = 0 then 0 else T))])), (d1, .inl (cI, 2048, .inl fD)), (s1, .inl (cI, 2048, .inl fS)), (i1, .inl (cI, 2080, .inl (if thEnd n bR T up2 kind = 0 then enI (enF fI fT bR R T kind) bR (bR + 5 + T) else fI))), (b1, .inl (cI, 240, .inl (if thEnd n bR T up2 kind = 0 then upd fB (R + 1) (nI (bR + 5 + T + 4)) else fB))), (t1, .inl (cI, 20, .inl fT))] [h, d1, s1, i1, b1, t1] (some (.int (if thEnd n bR T up2 kind = 0 then nI (R + 1) else 0)))) ([.ref h, .int kind] : List Value).toArray s 0 0 (mA [h, d1, s1, i1, b1, t1])) (F0 m 65 ls []) := by
            intro n9
            induction n9 with
            | zero => intro k x H locs ls hx9 hkT hm; exact absurd hm (Nat.not_lt_zero _)
            | succ n9 ih =>
              intro k x H locs ls hx9 hkT hm hP hD hS hl
              refine lv_iload_n hx hb dX3_end_65 rfl (lv_at hl 0 rfl) ?_
              refine lv_aload_n hx hb dX3_end_66 rfl (lv_at hl 2 rfl) ?_
              refine k_get (ci := 4) (T := TX3) (N := 13) (C := RX3) hx hb hts inX3 hown hK hP 0 rfl rfl 12 (by decide) fl52 rfl rfl dX3_end_67 ?_
              refine lv_icmp_ge (tgt := 93) hx hb dX3_end_70 (by decide) (fun c5 => ?_) (fun c5 => ?_)
              · have nc5 : T ≤ k := (nI_leI (a := T) (b := k) (by omega) (by omega)).mp c5
                refine lv_aload_n hx hb dX3_end_93 rfl (lv_at hl 2 rfl) ?_
                refine lv_iload_n hx hb dX3_end_94 rfl (lv_at hl 1 rfl) ?_
                refine lv_aload_n hx hb dX3_end_95 rfl (lv_at hl 2 rfl) ?_
                refine k_get (ci := 4) (T := TX3) (N := 13) (C := RX3) hx hb hts inX3 hown hK hP 0 rfl rfl 12 (by decide) fl52 rfl rfl dX3_end_96 ?_
                refine lv_iadd hx hb dX3_end_99 ?_
                refine k_nrm (y := nI ((bR + 5) + T)) (nI_add (bR + 5) T) ?_
                refine k_afW (wc := [(h, .inr (4, [.int (nI (32 * n)), .ref d1, .ref s1, .int bk2, .int up2, .ref i1, .ref b1, .int (nI R), .int (nI S), .int wr, .int 0, .ref t1, .int (nI T)])), (d1, .inl (cI, 2048, .inl fD)), (s1, .inl (cI, 2048, .inl fS)), (i1, .inl (cI, 2080, .inl x)), (b1, .inl (cI, 240, .inl fB)), (t1, .inl (cI, 20, .inl fT))]) (ws' := [(h, .inr (4, [.int (nI (32 * n)), .ref d1, .ref s1, .int bk2, .int up2, .ref i1, .ref b1, .int (nI (R + 1)), .int (nI S), .int wr, .int 0, .ref t1, .int (nI T)])), (d1, .inl (cI, 2048, .inl fD)), (s1, .inl (cI, 2048, .inl fS)), (i1, .inl (cI, 2080, .inl (clN x ((bR + 5) + T) (sN x (bR + 1) (((bR + 5) + T) - (bR + 1))) 4))), (b1, .inl (cI, 240, .inl (upd fB (R + 1) (nI (((bR + 5) + T) + 4))))), (t1, .inl (cI, 20, .inl fT))]) (va_runV (rest := []) ⟨hx, hb, hml, hown, hts⟩ (m_X3_close l dC dI cI cJ h d1 s1 i1 b1 t1 fD fS x fB fT n R S T bk2 up2 wr 0 bR ((bR + 5) + T) (by omega) hbg (by omega) (by omega)) (cwV 1 hts gX3_end_X3_close rfl rfl rfl hdv_X3_close ⟨Nat.le_of_ble_eq_true rfl, Nat.le_of_ble_eq_true rfl⟩) (k_preVW hK hP hD [0, 1, 2, 3, 4, 5] rfl rfl 0 rfl rfl) rfl rfl hl.1 rfl (lv_room (Nat.le_of_ble_eq_true rfl)) dX3_end_100 ⟨Nat.le_of_ble_eq_true rfl, Nat.le_of_ble_eq_true rfl⟩) hP hD hS [0, 1, 2, 3, 4, 5] rfl rfl rfl rfl (fun H locs hP hD hS => ?_)
                refine lv_aload_n hx hb dX3_end_103 rfl (lv_at hl 2 rfl) ?_
                refine lv_iconst (v := 0) hx hb dX3_end_104 (by decide) ?_
                refine k_putf (ws' := [(h, .inr (4, [.int (nI (32 * n)), .ref d1, .ref s1, .int bk2, .int up2, .ref i1, .ref b1, .int (nI (R + 1)), .int (nI S), .int wr, .int 0, .ref t1, .int 0])), (d1, .inl (cI, 2048, .inl fD)), (s1, .inl (cI, 2048, .inl fS)), (i1, .inl (cI, 2080, .inl (clN x ((bR + 5) + T) (sN x (bR + 1) (((bR + 5) + T) - (bR + 1))) 4))), (b1, .inl (cI, 240, .inl (upd fB (R + 1) (nI (((bR + 5) + T) + 4))))), (t1, .inl (cI, 20, .inl fT))]) (ci := 4) (T := TX3) (N := 13) (C := RX3) (ty := .int) hx hb hts inX3 tyX3 tyX3_ok nmX3 hown hK hP hD hS 0 rfl rfl 12 (by decide) fl52 rfl rfl rfl rfl rfl (Nat.le_of_ble_eq_true rfl) dX3_end_105 rfl (fun H locs hP hD hS => ?_)
                refine lv_aload_n hx hb dX3_end_108 rfl (lv_at hl 2 rfl) ?_
                refine k_get (ci := 4) (T := TX3) (N := 13) (C := RX3) hx hb hts inX3 hown hK hP 0 rfl rfl 7 (by decide) fl41 rfl rfl dX3_end_109 ?_
                exact k_iretW hx hb hr hlocks hP hS (by have hth : thEnd n bR T up2 kind = 0 := (by simp only [thEnd, if_neg c1, if_neg c2, if_pos c3, if_pos c4, if_pos c5]); (simp only [hth, il0, il1, il2, il3, if_true, if_false]) <;> (rfl)) (by have hth : thEnd n bR T up2 kind = 0 := (by simp only [thEnd, if_neg c1, if_neg c2, if_pos c3, if_pos c4, if_pos c5]); (simp only [hth, il0, il1, il2, il3, if_true, if_false]) <;> (rw [hx9, show k = T by omega]; rfl)) dX3_end_112
              · have nc5 : ¬ T ≤ k := fun h9 => c5 ((nI_leI (a := T) (b := k) (by omega) (by omega)).mpr h9)
                refine lv_aload_n hx hb dX3_end_73 rfl (lv_at hl 2 rfl) ?_
                refine k_get (ci := 4) (T := TX3) (N := 13) (C := RX3) hx hb hts inX3 hown hK hP 0 rfl rfl 5 (by decide) fl20 rfl rfl dX3_end_74 ?_
                refine lv_iload_n hx hb dX3_end_77 rfl (lv_at hl 1 rfl) ?_
                refine lv_iload_n hx hb dX3_end_78 rfl (lv_at hl 0 rfl) ?_
                refine lv_iadd hx hb dX3_end_79 ?_
                refine k_nrm (y := nI ((bR + 5) + k)) (nI_add (bR + 5) k) ?_
                refine lv_aload_n hx hb dX3_end_80 rfl (lv_at hl 2 rfl) ?_
                refine k_get (ci := 4) (T := TX3) (N := 13) (C := RX3) hx hb hts inX3 hown hK hP 0 rfl rfl 11 (by decide) fl26 rfl rfl dX3_end_81 ?_
                refine lv_iload_n hx hb dX3_end_84 rfl (lv_at hl 0 rfl) ?_
                refine k_ialdn (i := k) hx hb hK hP 5 rfl (by omega) (by decide) dX3_end_85 ?_
                refine k_iastn (ws' := [(h, .inr (4, [.int (nI (32 * n)), .ref d1, .ref s1, .int bk2, .int up2, .ref i1, .ref b1, .int (nI R), .int (nI S), .int wr, .int 0, .ref t1, .int (nI T)])), (d1, .inl (cI, 2048, .inl fD)), (s1, .inl (cI, 2048, .inl fS)), (i1, .inl (cI, 2080, .inl (upd x ((bR + 5) + k) (fT k)))), (b1, .inl (cI, 240, .inl fB)), (t1, .inl (cI, 20, .inl fT))]) (j := (bR + 5) + k) hx hb hK hP hD hS 3 rfl rfl (by omega) (by decide) dX3_end_86 rfl (fun H locs hP hD hS => ?_)
                refine lv_iinc (v := nI (k + 1)) (lv' := [(3, .int (nI (k + 1))), (2, .int (nI (bR + 5))), (0, .ref h), (1, .int kind)]) hx hb dX3_end_87 hl (k := 0) rfl (nI_1 k) (by decide) rfl (fun ls hl => ?_)
                refine lv_goto (tgt := 65) hx hb dX3_end_90 (by decide) ?_
                exact ih (k + 1) (upd x ((bR + 5) + k) (fT k)) _ _ ls (by rw [hx9]; rfl) (by omega) (by omega) hP hD hS (lv_sub hl [0, 1, 2, 3] rfl)
          exact loop65 _ 0 (hdN fI bR R kind (nI T)) _ _ ls rfl (Nat.zero_le _) (Nat.lt_succ_self _) hP hD hS (lv_sub hl [0, 1, 2, 3] rfl)
        · exact absurd c4 (by decide)
      · refine lv_iconst (v := 3) hx hb dX3_end_36 (by decide) ?_
        refine lv_goto (tgt := 41) hx hb dX3_end_37 (by decide) ?_
        refine k_putf (ws' := [(h, .inr (4, [.int (nI (32 * n)), .ref d1, .ref s1, .int bk2, .int up2, .ref i1, .ref b1, .int (nI R), .int (nI S), .int wr, .int 3, .ref t1, .int (nI T)])), (d1, .inl (cI, 2048, .inl fD)), (s1, .inl (cI, 2048, .inl fS)), (i1, .inl (cI, 2080, .inl fI)), (b1, .inl (cI, 240, .inl fB)), (t1, .inl (cI, 20, .inl fT))]) (ci := 4) (T := TX3) (N := 13) (C := RX3) (ty := .int) hx hb hts inX3 tyX3 tyX3_ok nmX3 hown hK hP hD hS 0 rfl rfl 10 (by decide) fl33 rfl rfl rfl rfl rfl (Nat.le_of_ble_eq_true rfl) dX3_end_41 rfl (fun H locs hP hD hS => ?_)
        refine lv_aload_n hx hb dX3_end_44 rfl (lv_at hl 0 rfl) ?_
        refine k_get (ci := 4) (T := TX3) (N := 13) (C := RX3) hx hb hts inX3 hown hK hP 0 rfl rfl 10 (by decide) fl33 rfl rfl dX3_end_45 ?_
        refine lv_if_eq (tgt := 53) hx hb dX3_end_48 (by decide) (fun c6 => ?_) (fun c6 => ?_)
        · exact absurd c6 (by decide)
        · refine lv_iconst (v := 0) hx hb dX3_end_51 (by decide) ?_
          exact k_iretW hx hb hr hlocks hP hS (by have hth : thEnd n bR T up2 kind = 3 := (by simp only [thEnd, if_neg c1, if_neg c2, if_neg c3, if_neg c6]); (simp only [hth, il0, il1, il2, il3, if_true, if_false]) <;> rfl) (by have hth : thEnd n bR T up2 kind = 3 := (by simp only [thEnd, if_neg c1, if_neg c2, if_neg c3, if_neg c6]); (simp only [hth, il0, il1, il2, il3, if_true, if_false]) <;> rfl) dX3_end_52
    · refine lv_iconst (v := 2) hx hb dX3_end_21 (by decide) ?_
      refine lv_goto (tgt := 41) hx hb dX3_end_22 (by decide) ?_
      refine k_putf (ws' := [(h, .inr (4, [.int (nI (32 * n)), .ref d1, .ref s1, .int bk2, .int up2, .ref i1, .ref b1, .int (nI R), .int (nI S), .int wr, .int 2, .ref t1, .int (nI T)])), (d1, .inl (cI, 2048, .inl fD)), (s1, .inl (cI, 2048, .inl fS)), (i1, .inl (cI, 2080, .inl fI)), (b1, .inl (cI, 240, .inl fB)), (t1, .inl (cI, 20, .inl fT))]) (ci := 4) (T := TX3) (N := 13) (C := RX3) (ty := .int) hx hb hts inX3 tyX3 tyX3_ok nmX3 hown hK hP hD hS 0 rfl rfl 10 (by decide) fl33 rfl rfl rfl rfl rfl (Nat.le_of_ble_eq_true rfl) dX3_end_41 rfl (fun H locs hP hD hS => ?_)
      refine lv_aload_n hx hb dX3_end_44 rfl (lv_at hl 0 rfl) ?_
      refine k_get (ci := 4) (T := TX3) (N := 13) (C := RX3) hx hb hts inX3 hown hK hP 0 rfl rfl 10 (by decide) fl33 rfl rfl dX3_end_45 ?_
      refine lv_if_eq (tgt := 53) hx hb dX3_end_48 (by decide) (fun c7 => ?_) (fun c7 => ?_)
      · exact absurd c7 (by decide)
      · refine lv_iconst (v := 0) hx hb dX3_end_51 (by decide) ?_
        exact k_iretW hx hb hr hlocks hP hS (by have hth : thEnd n bR T up2 kind = 2 := (by simp only [thEnd, if_neg c1, if_pos c2, if_neg c7]); (simp only [hth, il0, il1, il2, il3, if_true, if_false]) <;> rfl) (by have hth : thEnd n bR T up2 kind = 2 := (by simp only [thEnd, if_neg c1, if_pos c2, if_neg c7]); (simp only [hth, il0, il1, il2, il3, if_true, if_false]) <;> rfl) dX3_end_52
  · refine lv_iconst (v := 1) hx hb dX3_end_10 (by decide) ?_
    refine lv_goto (tgt := 41) hx hb dX3_end_11 (by decide) ?_
    refine k_putf (ws' := [(h, .inr (4, [.int (nI (32 * n)), .ref d1, .ref s1, .int bk2, .int up2, .ref i1, .ref b1, .int (nI R), .int (nI S), .int wr, .int 1, .ref t1, .int (nI T)])), (d1, .inl (cI, 2048, .inl fD)), (s1, .inl (cI, 2048, .inl fS)), (i1, .inl (cI, 2080, .inl fI)), (b1, .inl (cI, 240, .inl fB)), (t1, .inl (cI, 20, .inl fT))]) (ci := 4) (T := TX3) (N := 13) (C := RX3) (ty := .int) hx hb hts inX3 tyX3 tyX3_ok nmX3 hown hK hP hD hS 0 rfl rfl 10 (by decide) fl33 rfl rfl rfl rfl rfl (Nat.le_of_ble_eq_true rfl) dX3_end_41 rfl (fun H locs hP hD hS => ?_)
    refine lv_aload_n hx hb dX3_end_44 rfl (lv_at hl 0 rfl) ?_
    refine k_get (ci := 4) (T := TX3) (N := 13) (C := RX3) hx hb hts inX3 hown hK hP 0 rfl rfl 10 (by decide) fl33 rfl rfl dX3_end_45 ?_
    refine lv_if_eq (tgt := 53) hx hb dX3_end_48 (by decide) (fun c8 => ?_) (fun c8 => ?_)
    · exact absurd c8 (by decide)
    · refine lv_iconst (v := 0) hx hb dX3_end_51 (by decide) ?_
      exact k_iretW hx hb hr hlocks hP hS (by have hth : thEnd n bR T up2 kind = 1 := (by simp only [thEnd, if_pos c1, if_neg c8]); (simp only [hth, il0, il1, il2, il3, if_true, if_false]) <;> rfl) (by have hth : thEnd n bR T up2 kind = 1 := (by simp only [thEnd, if_pos c1, if_neg c8]); (simp only [hth, il0, il1, il2, il3, if_true, if_false]) <;> rfl) dX3_end_52
set_option maxHeartbeats 4000000 in
set_option maxRecDepth 100000 in
theorem m_X3_whole (l : Launch) (dC : Nat → ClassId) (dI : Nat → Nat → Nat) (cI cJ : ClassId) (h : Nat) (d1 : Nat) (s1 : Nat) (i1 : Nat) (b1 : Nat) (t1 : Nat) (fD : Nat → Int32) (fS : Nat → Int32) (fI : Nat → Int32) (fB : Nat → Int32) (fT : Nat → Int32) (n : Nat) (R : Nat) (S : Nat) (T : Nat) (bk2 : Int32) (up2 : Int32) (wr : Int32) (th : Int32) (bR : Nat) (Bg : Nat → Nat) (hn : n ≤ 64) (hR9 : R ≤ 227) (hbg : fB R = nI bR) (hbR : bR ≤ 32 * n) (hB : ∀ j, j < R → fB j = nI (Bg j) ∧ Bg j + 4 < 2080) : cW l yX3_whole wsX3_whole ({ frames := 2, cells := 0, slots := 0, locals := 47 }) dC dI cI cJ [(h, .inr (4, [.int (nI (32 * n)), .ref d1, .ref s1, .int bk2, .int up2, .ref i1, .ref b1, .int (nI R), .int (nI S), .int wr, .int th, .ref t1, .int (nI T)])), (d1, .inl (cI, 2048, .inl fD)), (s1, .inl (cI, 2048, .inl fS)), (i1, .inl (cI, 2080, .inl fI)), (b1, .inl (cI, 240, .inl fB)), (t1, .inl (cI, 20, .inl fT))] [(h, .inr (4, [.int (nI (32 * n)), .ref d1, .ref s1, .int bk2, .int up2, .ref i1, .ref b1, .int (nI (if thWhole n bR up2 = 0 then R + 1 else R)), .int (nI S), .int wr, .int (thWhole n bR up2), .ref t1, .int (nI T)])), (d1, .inl (cI, 2048, .inl fD)), (s1, .inl (cI, 2048, .inl fS)), (i1, .inl (cI, 2080, .inl (if thWhole n bR up2 = 0 then enI (whF fI bR R Bg) bR (bR + 5 + 8) else fI))), (b1, .inl (cI, 240, .inl (if thWhole n bR up2 = 0 then upd fB (R + 1) (nI (bR + 5 + 8 + 4)) else fB))), (t1, .inl (cI, 20, .inl fT))] [h, d1, s1, i1, b1, t1] [.ref h] (some (.int (if thWhole n bR up2 = 0 then nI (R + 1) else 0))) := by
  refine Met.ofW (cc := cX3_whole) (maxL := 4) (ret := (some .int)) (by decide) rfl ?_
  intro p e s m args below meth c s₁ B hml hv
  obtain ⟨rfl, hP, hK, hD0⟩ := hv
  have hx := B.exec
  have hb := B.bytes
  have hr := B.returns
  have hts := atoms_spec (ws := wsX3_whole) B.pre
  have hown : s.vm.findClass RX3 = some m.cls := findClass_of_methodNamed B.named
  have hlocks := B.notSynchronized
  have inX3 : ∀ w ∈ wsX30, w ∈ wsX3_whole := fun w h => (List.mem_cons_of_mem _ (List.mem_append_right _ h))
  have fl16 := hts (.fieldLink RX3 16 "StockLogModel" "up" "Z") (by decide +kernel)
  have fl20 := hts (.fieldLink RX3 20 "StockLogModel" "image" "[I") (by decide +kernel)
  have fl33 := hts (.fieldLink RX3 33 "StockLogModel" "thrown" "I") (by decide +kernel)
  have fl41 := hts (.fieldLink RX3 41 "StockLogModel" "rows" "I") (by decide +kernel)
  have hD : va_D (mA [h, d1, s1, i1, b1, t1]) [(h, .inr (4, [.int (nI (32 * n)), .ref d1, .ref s1, .int bk2, .int up2, .ref i1, .ref b1, .int (nI R), .int (nI S), .int wr, .int th, .ref t1, .int (nI T)])), (d1, .inl (cI, 2048, .inl fD)), (s1, .inl (cI, 2048, .inl fS)), (i1, .inl (cI, 2080, .inl fI)), (b1, .inl (cI, 240, .inl fB)), (t1, .inl (cI, 20, .inl fT))] := k_Dw hD0 rfl
  have hS : va_S (mA [h, d1, s1, i1, b1, t1]) s.heap s.heap [] := va_S.rf
  have hl := lv_entry ([.ref h]) (n := 4) (Nat.le_of_ble_eq_true rfl)
  rw [lg_entry_eq]
  generalize (lg_sl ([.ref h]) ++ List.replicate (4 - (lg_sl ([.ref h])).length) Slot.unset).toArray = ls at hl ⊢
  have hl : lv_has ls 4 [(0, .ref h)] := hl
  refine lv_aload_n hx hb dX3_whole_0 rfl (lv_at hl 0 rfl) ?_
  refine lv_aload_n hx hb dX3_whole_1 rfl (lv_at hl 0 rfl) ?_
  refine k_get (ci := 4) (T := TX3) (N := 13) (C := RX3) hx hb hts inX3 hown hK hP 0 rfl rfl 4 (by decide) fl16 rfl rfl dX3_whole_2 ?_
  refine lv_if_ne (tgt := 12) hx hb dX3_whole_5 (by decide) (fun c1 => ?_) (fun c1 => ?_)
  · refine lv_aload_n hx hb dX3_whole_12 rfl (lv_at hl 0 rfl) ?_
    refine lv_bipush (v := 8) hx hb dX3_whole_13 (by decide) ?_
    refine k_afP (va_runV (rest := [.ref h]) ⟨hx, hb, hml, hown, hts⟩ (m_X3_isFull l dC dI cI cJ h d1 s1 i1 b1 t1 fD fS fI fB fT n R S T bk2 up2 wr th bR 8 (by omega) (by omega) hbg (by omega) (by omega)) (cwV 1 hts gX3_whole_X3_isFull rfl rfl rfl hdv_X3_isFull ⟨Nat.le_of_ble_eq_true rfl, Nat.le_of_ble_eq_true rfl⟩) (k_preVP hK hP [0, 1, 2, 3, 4, 5] rfl 0 rfl rfl) rfl rfl hl.1 rfl (lv_room (Nat.le_of_ble_eq_true rfl)) dX3_whole_15 ⟨Nat.le_of_ble_eq_true rfl, Nat.le_of_ble_eq_true rfl⟩) ?_
    refine lv_if_eq (tgt := 25) hx hb dX3_whole_18 (by decide) (fun c2 => ?_) (fun c2 => ?_)
    · have hfit := k_fit c2
      refine lv_iconst (v := 0) hx hb dX3_whole_25 (by decide) ?_
      refine k_putf (ws' := [(h, .inr (4, [.int (nI (32 * n)), .ref d1, .ref s1, .int bk2, .int up2, .ref i1, .ref b1, .int (nI R), .int (nI S), .int wr, .int 0, .ref t1, .int (nI T)])), (d1, .inl (cI, 2048, .inl fD)), (s1, .inl (cI, 2048, .inl fS)), (i1, .inl (cI, 2080, .inl fI)), (b1, .inl (cI, 240, .inl fB)), (t1, .inl (cI, 20, .inl fT))]) (ci := 4) (T := TX3) (N := 13) (C := RX3) (ty := .int) hx hb hts inX3 tyX3 tyX3_ok nmX3 hown hK hP hD hS 0 rfl rfl 10 (by decide) fl33 rfl rfl rfl rfl rfl (Nat.le_of_ble_eq_true rfl) dX3_whole_26 rfl (fun H locs hP hD hS => ?_)
      refine lv_aload_n hx hb dX3_whole_29 rfl (lv_at hl 0 rfl) ?_
      refine k_get (ci := 4) (T := TX3) (N := 13) (C := RX3) hx hb hts inX3 hown hK hP 0 rfl rfl 10 (by decide) fl33 rfl rfl dX3_whole_30 ?_
      refine lv_if_eq (tgt := 38) hx hb dX3_whole_33 (by decide) (fun c3 => ?_) (fun c3 => ?_)
      · refine lv_aload_n hx hb dX3_whole_38 rfl (lv_at hl 0 rfl) ?_
        refine lv_iconst (v := 5) hx hb dX3_whole_39 (by decide) ?_
        refine lv_bipush (v := 8) hx hb dX3_whole_40 (by decide) ?_
        refine k_afW (wc := [(h, .inr (4, [.int (nI (32 * n)), .ref d1, .ref s1, .int bk2, .int up2, .ref i1, .ref b1, .int (nI R), .int (nI S), .int wr, .int 0, .ref t1, .int (nI T)])), (d1, .inl (cI, 2048, .inl fD)), (s1, .inl (cI, 2048, .inl fS)), (i1, .inl (cI, 2080, .inl fI)), (b1, .inl (cI, 240, .inl fB)), (t1, .inl (cI, 20, .inl fT))]) (ws' := [(h, .inr (4, [.int (nI (32 * n)), .ref d1, .ref s1, .int bk2, .int up2, .ref i1, .ref b1, .int (nI R), .int (nI S), .int wr, .int 0, .ref t1, .int (nI T)])), (d1, .inl (cI, 2048, .inl fD)), (s1, .inl (cI, 2048, .inl fS)), (i1, .inl (cI, 2080, .inl (hdN fI bR R 5 (nI 8)))), (b1, .inl (cI, 240, .inl fB)), (t1, .inl (cI, 20, .inl fT))]) (va_runV (rest := []) ⟨hx, hb, hml, hown, hts⟩ (m_X3_head l dC dI cI cJ h d1 s1 i1 b1 t1 fD fS fI fB fT n R S T bk2 up2 wr 0 bR 5 8 (by omega) hbg (by omega)) (cwV 2 hts gX3_whole_X3_head rfl rfl rfl hdv_X3_head ⟨Nat.le_of_ble_eq_true rfl, Nat.le_of_ble_eq_true rfl⟩) (k_preVW hK hP hD [0, 1, 2, 3, 4, 5] rfl rfl 0 rfl rfl) rfl rfl hl.1 rfl (lv_room (Nat.le_of_ble_eq_true rfl)) dX3_whole_42 ⟨Nat.le_of_ble_eq_true rfl, Nat.le_of_ble_eq_true rfl⟩) hP hD hS [0, 1, 2, 3, 4, 5] rfl rfl rfl rfl (fun H locs hP hD hS => ?_)
        refine lv_istore_n (lv' := [(1, .int (nI (bR + 5))), (0, .ref h)]) hx hb dX3_whole_45 rfl hl (by decide) rfl (fun ls hl => ?_)
        refine lv_iconst (v := 1) hx hb dX3_whole_46 (by decide) ?_
        refine lv_istore_n (lv' := [(2, .int 1), (1, .int (nI (bR + 5))), (0, .ref h)]) hx hb dX3_whole_47 rfl hl (by decide) rfl (fun ls hl => ?_)
        have loop48 : ∀ (n9 : Nat) (k : Nat) (x : Nat → Int32) (H : Heap) (locs : List Loc) (ls : Array Slot), (x = stM (hdN fI bR R 5 8) (bR + 5) R Bg (k - 1)) → (1 ≤ k) → (k ≤ 5) → 5 - k < n9 → va_P (dC, dI) vwCl [(h, .inr (4, [.int (nI (32 * n)), .ref d1, .ref s1, .int bk2, .int up2, .ref i1, .ref b1, .int (nI R), .int (nI S), .int wr, .int 0, .ref t1, .int (nI T)])), (d1, .inl (cI, 2048, .inl fD)), (s1, .inl (cI, 2048, .inl fS)), (i1, .inl (cI, 2080, .inl x)), (b1, .inl (cI, 240, .inl fB)), (t1, .inl (cI, 20, .inl fT))] H → va_D (mA [h, d1, s1, i1, b1, t1]) [(h, .inr (4, [.int (nI (32 * n)), .ref d1, .ref s1, .int bk2, .int up2, .ref i1, .ref b1, .int (nI R), .int (nI S), .int wr, .int 0, .ref t1, .int (nI T)])), (d1, .inl (cI, 2048, .inl fD)), (s1, .inl (cI, 2048, .inl fS)), (i1, .inl (cI, 2080, .inl x)), (b1, .inl (cI, 240, .inl fB)), (t1, .inl (cI, 20, .inl fT))] → va_S (mA [h, d1, s1, i1, b1, t1]) s.heap H locs → lv_has ls 4 [(2, .int (nI k)), (1, .int (nI (bR + 5))), (0, .ref h)] → W p l e (headSpec wsX3_whole ({ frames := 2, cells := 0, slots := 0, locals := 47 })).room s m ([.ref h] : List Value).toArray below meth c H locs 0 0 (MQ below (mQ dC dI [(h, .inr (4, [.int (nI (32 * n)), .ref d1, .ref s1, .int bk2, .int up2, .ref i1, .ref b1, .int (nI (if thWhole n bR up2 = 0 then R + 1 else R)), .int (nI S), .int wr, .int (thWhole n bR up2), .ref t1, .int (nI T)])), (d1, .inl (cI, 2048, .inl fD)), (s1, .inl (cI, 2048, .inl fS)), (i1, .inl (cI, 2080, .inl (if thWhole n bR up2 = 0 then enI (whF fI bR R Bg) bR (bR + 5 + 8) else fI))), (b1, .inl (cI, 240, .inl (if thWhole n bR up2 = 0 then upd fB (R + 1) (nI (bR + 5 + 8 + 4)) else fB))), (t1, .inl (cI, 20, .inl fT))] [h, d1, s1, i1, b1, t1] (some (.int (if thWhole n bR up2 = 0 then nI (R + 1) else 0)))) ([.ref h] : List Value).toArray s 0 0 (mA [h, d1, s1, i1, b1, t1])) (F0 m 48 ls []) := by
          intro n9
          induction n9 with
          | zero => intro k x H locs ls hx9 hk1 hk5 hm; exact absurd hm (Nat.not_lt_zero _)
          | succ n9 ih =>
            intro k x H locs ls hx9 hk1 hk5 hm hP hD hS hl
            refine lv_iload_n hx hb dX3_whole_48 rfl (lv_at hl 0 rfl) ?_
            refine lv_iconst (v := 4) hx hb dX3_whole_49 (by decide) ?_
            refine lv_icmp_gt (tgt := 102) hx hb dX3_whole_50 (by decide) (fun c4 => ?_) (fun c4 => ?_)
            · have nc4 : 4 < k := (nI_ltI (a := 4) (b := k) (by omega) (by omega)).mp c4
              refine lv_aload_n hx hb dX3_whole_102 rfl (lv_at hl 2 rfl) ?_
              refine lv_iload_n hx hb dX3_whole_103 rfl (lv_at hl 1 rfl) ?_
              refine lv_bipush (v := 8) hx hb dX3_whole_104 (by decide) ?_
              refine lv_iadd hx hb dX3_whole_106 ?_
              refine k_nrm (y := nI ((bR + 5) + 8)) (nI_add (bR + 5) 8) ?_
              refine k_afW (wc := [(h, .inr (4, [.int (nI (32 * n)), .ref d1, .ref s1, .int bk2, .int up2, .ref i1, .ref b1, .int (nI R), .int (nI S), .int wr, .int 0, .ref t1, .int (nI T)])), (d1, .inl (cI, 2048, .inl fD)), (s1, .inl (cI, 2048, .inl fS)), (i1, .inl (cI, 2080, .inl x)), (b1, .inl (cI, 240, .inl fB)), (t1, .inl (cI, 20, .inl fT))]) (ws' := [(h, .inr (4, [.int (nI (32 * n)), .ref d1, .ref s1, .int bk2, .int up2, .ref i1, .ref b1, .int (nI (R + 1)), .int (nI S), .int wr, .int 0, .ref t1, .int (nI T)])), (d1, .inl (cI, 2048, .inl fD)), (s1, .inl (cI, 2048, .inl fS)), (i1, .inl (cI, 2080, .inl (clN x ((bR + 5) + 8) (sN x (bR + 1) (((bR + 5) + 8) - (bR + 1))) 4))), (b1, .inl (cI, 240, .inl (upd fB (R + 1) (nI (((bR + 5) + 8) + 4))))), (t1, .inl (cI, 20, .inl fT))]) (va_runV (rest := []) ⟨hx, hb, hml, hown, hts⟩ (m_X3_close l dC dI cI cJ h d1 s1 i1 b1 t1 fD fS x fB fT n R S T bk2 up2 wr 0 bR ((bR + 5) + 8) (by omega) hbg (by omega) (by omega)) (cwV 1 hts gX3_whole_X3_close rfl rfl rfl hdv_X3_close ⟨Nat.le_of_ble_eq_true rfl, Nat.le_of_ble_eq_true rfl⟩) (k_preVW hK hP hD [0, 1, 2, 3, 4, 5] rfl rfl 0 rfl rfl) rfl rfl hl.1 rfl (lv_room (Nat.le_of_ble_eq_true rfl)) dX3_whole_107 ⟨Nat.le_of_ble_eq_true rfl, Nat.le_of_ble_eq_true rfl⟩) hP hD hS [0, 1, 2, 3, 4, 5] rfl rfl rfl rfl (fun H locs hP hD hS => ?_)
              refine lv_aload_n hx hb dX3_whole_110 rfl (lv_at hl 2 rfl) ?_
              refine k_get (ci := 4) (T := TX3) (N := 13) (C := RX3) hx hb hts inX3 hown hK hP 0 rfl rfl 7 (by decide) fl41 rfl rfl dX3_whole_111 ?_
              exact k_iretW hx hb hr hlocks hP hS (by have hth : thWhole n bR up2 = 0 := (by simp only [thWhole, if_neg c1, if_pos c2, if_pos c3, if_pos c4]); (simp only [hth, il0, il1, il2, il3, if_true, if_false]) <;> (rfl)) (by have hth : thWhole n bR up2 = 0 := (by simp only [thWhole, if_neg c1, if_pos c2, if_pos c3, if_pos c4]); (simp only [hth, il0, il1, il2, il3, if_true, if_false]) <;> (rw [hx9, show k = 5 by omega]; rfl)) dX3_whole_114
            · have nc4 : ¬ 4 < k := fun h9 => c4 ((nI_ltI (a := 4) (b := k) (by omega) (by omega)).mpr h9)
              refine lv_aload_n hx hb dX3_whole_53 rfl (lv_at hl 2 rfl) ?_
              refine lv_iload_n hx hb dX3_whole_54 rfl (lv_at hl 0 rfl) ?_
              refine lv_aload_n hx hb dX3_whole_55 rfl (lv_at hl 2 rfl) ?_
              refine k_get (ci := 4) (T := TX3) (N := 13) (C := RX3) hx hb hts inX3 hown hK hP 0 rfl rfl 7 (by decide) fl41 rfl rfl dX3_whole_56 ?_
              refine k_afP (va_runV (rest := []) ⟨hx, hb, hml, hown, hts⟩ (m_X3_rowsOf l dC dI cI cJ h d1 s1 i1 b1 t1 fD fS x fB fT n R S T bk2 up2 wr 0 Bg (nI k) R hB (by omega)) (cwV 2 hts gX3_whole_X3_rowsOf rfl rfl rfl hdv_X3_rowsOf ⟨Nat.le_of_ble_eq_true rfl, Nat.le_of_ble_eq_true rfl⟩) (k_preVP hK hP [0, 1, 2, 3, 4, 5] rfl 0 rfl rfl) rfl rfl hl.1 rfl (lv_room (Nat.le_of_ble_eq_true rfl)) dX3_whole_59 ⟨Nat.le_of_ble_eq_true rfl, Nat.le_of_ble_eq_true rfl⟩) ?_
              refine lv_istore_n (lv' := [(3, .int (nI (cN x Bg (nI k) R))), (2, .int (nI k)), (1, .int (nI (bR + 5))), (0, .ref h)]) hx hb dX3_whole_62 rfl hl (by decide) rfl (fun ls hl => ?_)
              refine lv_aload_n hx hb dX3_whole_63 rfl (lv_at hl 3 rfl) ?_
              refine k_get (ci := 4) (T := TX3) (N := 13) (C := RX3) hx hb hts inX3 hown hK hP 0 rfl rfl 5 (by decide) fl20 rfl rfl dX3_whole_64 ?_
              refine lv_iload_n hx hb dX3_whole_67 rfl (lv_at hl 2 rfl) ?_
              refine lv_iconst (v := 2) hx hb dX3_whole_68 (by decide) ?_
              refine lv_iload_n hx hb dX3_whole_69 rfl (lv_at hl 1 rfl) ?_
              refine lv_imul hx hb dX3_whole_70 ?_
              refine k_nrm (y := nI (2 * k)) (pk_mul 2 k) ?_
              refine lv_iadd hx hb dX3_whole_71 ?_
              refine k_nrm (y := nI ((bR + 5) + (2 * k))) (nI_add (bR + 5) (2 * k)) ?_
              refine lv_iconst (v := 2) hx hb dX3_whole_72 (by decide) ?_
              refine lv_isub hx hb dX3_whole_73 ?_
              refine k_nrm (y := nI (((bR + 5) + (2 * k)) - 2)) (pk_sub (a := (bR + 5) + (2 * k)) (b := 2) (by omega)) ?_
              refine lv_iload_n hx hb dX3_whole_74 rfl (lv_at hl 0 rfl) ?_
              refine lv_bipush (v := 8) hx hb dX3_whole_75 (by decide) ?_
              refine lv_ishr hx hb dX3_whole_77 ?_
              refine k_iastn (ws' := [(h, .inr (4, [.int (nI (32 * n)), .ref d1, .ref s1, .int bk2, .int up2, .ref i1, .ref b1, .int (nI R), .int (nI S), .int wr, .int 0, .ref t1, .int (nI T)])), (d1, .inl (cI, 2048, .inl fD)), (s1, .inl (cI, 2048, .inl fS)), (i1, .inl (cI, 2080, .inl (upd x (((bR + 5) + (2 * k)) - 2) ((nI (cN x Bg (nI k) R)) >>> (8 &&& 31))))), (b1, .inl (cI, 240, .inl fB)), (t1, .inl (cI, 20, .inl fT))]) (j := ((bR + 5) + (2 * k)) - 2) hx hb hK hP hD hS 3 rfl rfl (by omega) (by decide) dX3_whole_78 rfl (fun H locs hP hD hS => ?_)
              refine lv_aload_n hx hb dX3_whole_79 rfl (lv_at hl 3 rfl) ?_
              refine k_get (ci := 4) (T := TX3) (N := 13) (C := RX3) hx hb hts inX3 hown hK hP 0 rfl rfl 5 (by decide) fl20 rfl rfl dX3_whole_80 ?_
              refine lv_iload_n hx hb dX3_whole_83 rfl (lv_at hl 2 rfl) ?_
              refine lv_iconst (v := 2) hx hb dX3_whole_84 (by decide) ?_
              refine lv_iload_n hx hb dX3_whole_85 rfl (lv_at hl 1 rfl) ?_
              refine lv_imul hx hb dX3_whole_86 ?_
              refine k_nrm (y := nI (2 * k)) (pk_mul 2 k) ?_
              refine lv_iadd hx hb dX3_whole_87 ?_
              refine k_nrm (y := nI ((bR + 5) + (2 * k))) (nI_add (bR + 5) (2 * k)) ?_
              refine lv_iconst (v := 1) hx hb dX3_whole_88 (by decide) ?_
              refine lv_isub hx hb dX3_whole_89 ?_
              refine k_nrm (y := nI (((bR + 5) + (2 * k)) - 1)) (pk_sub (a := (bR + 5) + (2 * k)) (b := 1) (by omega)) ?_
              refine lv_iload_n hx hb dX3_whole_90 rfl (lv_at hl 0 rfl) ?_
              refine lv_sipush (v := 255) hx hb dX3_whole_91 (by decide) ?_
              refine lv_iand hx hb dX3_whole_94 ?_
              refine k_iastn (ws' := [(h, .inr (4, [.int (nI (32 * n)), .ref d1, .ref s1, .int bk2, .int up2, .ref i1, .ref b1, .int (nI R), .int (nI S), .int wr, .int 0, .ref t1, .int (nI T)])), (d1, .inl (cI, 2048, .inl fD)), (s1, .inl (cI, 2048, .inl fS)), (i1, .inl (cI, 2080, .inl (upd (upd x (((bR + 5) + (2 * k)) - 2) ((nI (cN x Bg (nI k) R)) >>> (8 &&& 31))) (((bR + 5) + (2 * k)) - 1) ((nI (cN x Bg (nI k) R)) &&& 255)))), (b1, .inl (cI, 240, .inl fB)), (t1, .inl (cI, 20, .inl fT))]) (j := ((bR + 5) + (2 * k)) - 1) hx hb hK hP hD hS 3 rfl rfl (by omega) (by decide) dX3_whole_95 rfl (fun H locs hP hD hS => ?_)
              refine lv_iinc (v := nI (k + 1)) (lv' := [(2, .int (nI (k + 1))), (3, .int (nI (cN x Bg (nI k) R))), (1, .int (nI (bR + 5))), (0, .ref h)]) hx hb dX3_whole_96 hl (k := 1) rfl (nI_1 k) (by decide) rfl (fun ls hl => ?_)
              refine lv_goto (tgt := 48) hx hb dX3_whole_99 (by decide) ?_
              exact ih (k + 1) (upd (upd x (((bR + 5) + (2 * k)) - 2) ((nI (cN x Bg (nI k) R)) >>> (8 &&& 31))) (((bR + 5) + (2 * k)) - 1) ((nI (cN x Bg (nI k) R)) &&& 255)) _ _ ls (by obtain ⟨j, rfl⟩ : ∃ j, k = j + 1 := ⟨k - 1, by omega⟩; rw [hx9]; rfl) (by omega) (by omega) (by omega) hP hD hS (lv_sub hl [0, 2, 3] rfl)
        exact loop48 _ 1 (hdN fI bR R 5 8) _ _ ls rfl (Nat.le_refl _) (by decide) (Nat.lt_succ_self _) hP hD hS (lv_sub hl [0, 1, 2] rfl)
      · exact absurd c3 (by decide)
    · refine lv_iconst (v := 2) hx hb dX3_whole_21 (by decide) ?_
      refine lv_goto (tgt := 26) hx hb dX3_whole_22 (by decide) ?_
      refine k_putf (ws' := [(h, .inr (4, [.int (nI (32 * n)), .ref d1, .ref s1, .int bk2, .int up2, .ref i1, .ref b1, .int (nI R), .int (nI S), .int wr, .int 2, .ref t1, .int (nI T)])), (d1, .inl (cI, 2048, .inl fD)), (s1, .inl (cI, 2048, .inl fS)), (i1, .inl (cI, 2080, .inl fI)), (b1, .inl (cI, 240, .inl fB)), (t1, .inl (cI, 20, .inl fT))]) (ci := 4) (T := TX3) (N := 13) (C := RX3) (ty := .int) hx hb hts inX3 tyX3 tyX3_ok nmX3 hown hK hP hD hS 0 rfl rfl 10 (by decide) fl33 rfl rfl rfl rfl rfl (Nat.le_of_ble_eq_true rfl) dX3_whole_26 rfl (fun H locs hP hD hS => ?_)
      refine lv_aload_n hx hb dX3_whole_29 rfl (lv_at hl 0 rfl) ?_
      refine k_get (ci := 4) (T := TX3) (N := 13) (C := RX3) hx hb hts inX3 hown hK hP 0 rfl rfl 10 (by decide) fl33 rfl rfl dX3_whole_30 ?_
      refine lv_if_eq (tgt := 38) hx hb dX3_whole_33 (by decide) (fun c5 => ?_) (fun c5 => ?_)
      · exact absurd c5 (by decide)
      · refine lv_iconst (v := 0) hx hb dX3_whole_36 (by decide) ?_
        exact k_iretW hx hb hr hlocks hP hS (by have hth : thWhole n bR up2 = 2 := (by simp only [thWhole, if_neg c1, if_neg c2, if_neg c5]); (simp only [hth, il0, il1, il2, il3, if_true, if_false]) <;> rfl) (by have hth : thWhole n bR up2 = 2 := (by simp only [thWhole, if_neg c1, if_neg c2, if_neg c5]); (simp only [hth, il0, il1, il2, il3, if_true, if_false]) <;> rfl) dX3_whole_37
  · refine lv_iconst (v := 1) hx hb dX3_whole_8 (by decide) ?_
    refine lv_goto (tgt := 26) hx hb dX3_whole_9 (by decide) ?_
    refine k_putf (ws' := [(h, .inr (4, [.int (nI (32 * n)), .ref d1, .ref s1, .int bk2, .int up2, .ref i1, .ref b1, .int (nI R), .int (nI S), .int wr, .int 1, .ref t1, .int (nI T)])), (d1, .inl (cI, 2048, .inl fD)), (s1, .inl (cI, 2048, .inl fS)), (i1, .inl (cI, 2080, .inl fI)), (b1, .inl (cI, 240, .inl fB)), (t1, .inl (cI, 20, .inl fT))]) (ci := 4) (T := TX3) (N := 13) (C := RX3) (ty := .int) hx hb hts inX3 tyX3 tyX3_ok nmX3 hown hK hP hD hS 0 rfl rfl 10 (by decide) fl33 rfl rfl rfl rfl rfl (Nat.le_of_ble_eq_true rfl) dX3_whole_26 rfl (fun H locs hP hD hS => ?_)
    refine lv_aload_n hx hb dX3_whole_29 rfl (lv_at hl 0 rfl) ?_
    refine k_get (ci := 4) (T := TX3) (N := 13) (C := RX3) hx hb hts inX3 hown hK hP 0 rfl rfl 10 (by decide) fl33 rfl rfl dX3_whole_30 ?_
    refine lv_if_eq (tgt := 38) hx hb dX3_whole_33 (by decide) (fun c6 => ?_) (fun c6 => ?_)
    · exact absurd c6 (by decide)
    · refine lv_iconst (v := 0) hx hb dX3_whole_36 (by decide) ?_
      exact k_iretW hx hb hr hlocks hP hS (by have hth : thWhole n bR up2 = 1 := (by simp only [thWhole, if_pos c1, if_neg c6]); (simp only [hth, il0, il1, il2, il3, if_true, if_false]) <;> rfl) (by have hth : thWhole n bR up2 = 1 := (by simp only [thWhole, if_pos c1, if_neg c6]); (simp only [hth, il0, il1, il2, il3, if_true, if_false]) <;> rfl) dX3_whole_37
set_option maxHeartbeats 4000000 in
set_option maxRecDepth 100000 in
theorem m_X3_sync (l : Launch) (dC : Nat → ClassId) (dI : Nat → Nat → Nat) (cI cJ : ClassId) (h : Nat) (d1 : Nat) (s1 : Nat) (i1 : Nat) (b1 : Nat) (t1 : Nat) (fD : Nat → Int32) (fS : Nat → Int32) (fI : Nat → Int32) (fB : Nat → Int32) (fT : Nat → Int32) (n : Nat) (R : Nat) (S : Nat) (T : Nat) (bk2 : Int32) (up2 : Int32) (wr : Int32) (th : Int32) (bR : Nat) (bS : Nat) (hn : n ≤ 64) (hR9 : R ≤ 227) (hS9 : S ≤ R) (hbg : fB R = nI bR) (hbs : fB S = nI bS) (hbR : bR ≤ 32 * n) (hbS : bS ≤ bR) : cW l yX3_sync wsX3_sync ({ frames := 0, cells := 0, slots := 0, locals := 0 }) dC dI cI cJ [(h, .inr (4, [.int (nI (32 * n)), .ref d1, .ref s1, .int bk2, .int up2, .ref i1, .ref b1, .int (nI R), .int (nI S), .int wr, .int th, .ref t1, .int (nI T)])), (d1, .inl (cI, 2048, .inl fD)), (s1, .inl (cI, 2048, .inl fS)), (i1, .inl (cI, 2080, .inl fI)), (b1, .inl (cI, 240, .inl fB)), (t1, .inl (cI, 20, .inl fT))] [(h, .inr (4, [.int (nI (32 * n)), .ref d1, .ref s1, .int bk2, .int up2, .ref i1, .ref b1, .int (nI R), .int (nI (if thUp up2 = 0 then R else S)), .int wr, .int (thUp up2), .ref t1, .int (nI T)])), (d1, .inl (cI, 2048, .inl (if thUp up2 = 0 then cpN fD fI bS (bR - bS) else fD))), (s1, .inl (cI, 2048, .inl fS)), (i1, .inl (cI, 2080, .inl fI)), (b1, .inl (cI, 240, .inl fB)), (t1, .inl (cI, 20, .inl fT))] [h, d1, s1, i1, b1, t1] [.ref h] (some (.int (if thUp up2 = 0 then nI (R - S) else 0))) := by
  refine Met.ofW (cc := cX3_sync) (maxL := 2) (ret := (some .int)) (by decide) rfl ?_
  intro p e s m args below meth c s₁ B hml hv
  obtain ⟨rfl, hP, hK, hD0⟩ := hv
  have hx := B.exec
  have hb := B.bytes
  have hr := B.returns
  have hts := atoms_spec (ws := wsX3_sync) B.pre
  have hown : s.vm.findClass RX3 = some m.cls := findClass_of_methodNamed B.named
  have hlocks := B.notSynchronized
  have inX3 : ∀ w ∈ wsX30, w ∈ wsX3_sync := fun w h => (List.mem_cons_of_mem _ (List.mem_append_right _ h))
  have fl7 := hts (.fieldLink RX3 7 "StockLogModel" "disk" "[I") (by decide +kernel)
  have fl16 := hts (.fieldLink RX3 16 "StockLogModel" "up" "Z") (by decide +kernel)
  have fl20 := hts (.fieldLink RX3 20 "StockLogModel" "image" "[I") (by decide +kernel)
  have fl23 := hts (.fieldLink RX3 23 "StockLogModel" "begin" "[I") (by decide +kernel)
  have fl33 := hts (.fieldLink RX3 33 "StockLogModel" "thrown" "I") (by decide +kernel)
  have fl41 := hts (.fieldLink RX3 41 "StockLogModel" "rows" "I") (by decide +kernel)
  have fl70 := hts (.fieldLink RX3 70 "StockLogModel" "synced" "I") (by decide +kernel)
  have hD : va_D (mA [h, d1, s1, i1, b1, t1]) [(h, .inr (4, [.int (nI (32 * n)), .ref d1, .ref s1, .int bk2, .int up2, .ref i1, .ref b1, .int (nI R), .int (nI S), .int wr, .int th, .ref t1, .int (nI T)])), (d1, .inl (cI, 2048, .inl fD)), (s1, .inl (cI, 2048, .inl fS)), (i1, .inl (cI, 2080, .inl fI)), (b1, .inl (cI, 240, .inl fB)), (t1, .inl (cI, 20, .inl fT))] := k_Dw hD0 rfl
  have hS : va_S (mA [h, d1, s1, i1, b1, t1]) s.heap s.heap [] := va_S.rf
  have hl := lv_entry ([.ref h]) (n := 2) (Nat.le_of_ble_eq_true rfl)
  rw [lg_entry_eq]
  generalize (lg_sl ([.ref h]) ++ List.replicate (2 - (lg_sl ([.ref h])).length) Slot.unset).toArray = ls at hl ⊢
  have hl : lv_has ls 2 [(0, .ref h)] := hl
  refine lv_aload_n hx hb dX3_sync_0 rfl (lv_at hl 0 rfl) ?_
  refine lv_aload_n hx hb dX3_sync_1 rfl (lv_at hl 0 rfl) ?_
  refine k_get (ci := 4) (T := TX3) (N := 13) (C := RX3) hx hb hts inX3 hown hK hP 0 rfl rfl 4 (by decide) fl16 rfl rfl dX3_sync_2 ?_
  refine lv_if_eq (tgt := 12) hx hb dX3_sync_5 (by decide) (fun c1 => ?_) (fun c1 => ?_)
  · refine lv_iconst (v := 1) hx hb dX3_sync_12 (by decide) ?_
    refine k_putf (ws' := [(h, .inr (4, [.int (nI (32 * n)), .ref d1, .ref s1, .int bk2, .int up2, .ref i1, .ref b1, .int (nI R), .int (nI S), .int wr, .int 1, .ref t1, .int (nI T)])), (d1, .inl (cI, 2048, .inl fD)), (s1, .inl (cI, 2048, .inl fS)), (i1, .inl (cI, 2080, .inl fI)), (b1, .inl (cI, 240, .inl fB)), (t1, .inl (cI, 20, .inl fT))]) (ci := 4) (T := TX3) (N := 13) (C := RX3) (ty := .int) hx hb hts inX3 tyX3 tyX3_ok nmX3 hown hK hP hD hS 0 rfl rfl 10 (by decide) fl33 rfl rfl rfl rfl rfl (Nat.le_of_ble_eq_true rfl) dX3_sync_13 rfl (fun H locs hP hD hS => ?_)
    refine lv_aload_n hx hb dX3_sync_16 rfl (lv_at hl 0 rfl) ?_
    refine k_get (ci := 4) (T := TX3) (N := 13) (C := RX3) hx hb hts inX3 hown hK hP 0 rfl rfl 10 (by decide) fl33 rfl rfl dX3_sync_17 ?_
    refine lv_if_eq (tgt := 25) hx hb dX3_sync_20 (by decide) (fun c2 => ?_) (fun c2 => ?_)
    · exact absurd c2 (by decide)
    · refine lv_iconst (v := 0) hx hb dX3_sync_23 (by decide) ?_
      exact k_iretW hx hb hr hlocks hP hS (by have hth : thUp up2 = 1 := (by simp only [thUp, if_pos c1, if_neg c2]); (simp only [hth, il0, il1, il2, il3, if_true, if_false]) <;> rfl) (by have hth : thUp up2 = 1 := (by simp only [thUp, if_pos c1, if_neg c2]); (simp only [hth, il0, il1, il2, il3, if_true, if_false]) <;> rfl) dX3_sync_24
  · refine lv_iconst (v := 0) hx hb dX3_sync_8 (by decide) ?_
    refine lv_goto (tgt := 13) hx hb dX3_sync_9 (by decide) ?_
    refine k_putf (ws' := [(h, .inr (4, [.int (nI (32 * n)), .ref d1, .ref s1, .int bk2, .int up2, .ref i1, .ref b1, .int (nI R), .int (nI S), .int wr, .int 0, .ref t1, .int (nI T)])), (d1, .inl (cI, 2048, .inl fD)), (s1, .inl (cI, 2048, .inl fS)), (i1, .inl (cI, 2080, .inl fI)), (b1, .inl (cI, 240, .inl fB)), (t1, .inl (cI, 20, .inl fT))]) (ci := 4) (T := TX3) (N := 13) (C := RX3) (ty := .int) hx hb hts inX3 tyX3 tyX3_ok nmX3 hown hK hP hD hS 0 rfl rfl 10 (by decide) fl33 rfl rfl rfl rfl rfl (Nat.le_of_ble_eq_true rfl) dX3_sync_13 rfl (fun H locs hP hD hS => ?_)
    refine lv_aload_n hx hb dX3_sync_16 rfl (lv_at hl 0 rfl) ?_
    refine k_get (ci := 4) (T := TX3) (N := 13) (C := RX3) hx hb hts inX3 hown hK hP 0 rfl rfl 10 (by decide) fl33 rfl rfl dX3_sync_17 ?_
    refine lv_if_eq (tgt := 25) hx hb dX3_sync_20 (by decide) (fun c3 => ?_) (fun c3 => ?_)
    · refine lv_aload_n hx hb dX3_sync_25 rfl (lv_at hl 0 rfl) ?_
      refine k_get (ci := 4) (T := TX3) (N := 13) (C := RX3) hx hb hts inX3 hown hK hP 0 rfl rfl 6 (by decide) fl23 rfl rfl dX3_sync_26 ?_
      refine lv_aload_n hx hb dX3_sync_29 rfl (lv_at hl 0 rfl) ?_
      refine k_get (ci := 4) (T := TX3) (N := 13) (C := RX3) hx hb hts inX3 hown hK hP 0 rfl rfl 8 (by decide) fl70 rfl rfl dX3_sync_30 ?_
      refine k_ialdn (i := S) hx hb hK hP 4 rfl (by omega) (by decide) dX3_sync_33 ?_
      refine k_nrm (y := nI bS) hbs ?_
      refine lv_istore_n (lv' := [(1, .int (nI bS)), (0, .ref h)]) hx hb dX3_sync_34 rfl hl (by decide) rfl (fun ls hl => ?_)
      have loop35 : ∀ (n9 : Nat) (k : Nat) (x : Nat → Int32) (H : Heap) (locs : List Loc) (ls : Array Slot), (x = cpN fD fI bS (k - bS)) → (bS ≤ k) → (k ≤ bR) → bR - k < n9 → va_P (dC, dI) vwCl [(h, .inr (4, [.int (nI (32 * n)), .ref d1, .ref s1, .int bk2, .int up2, .ref i1, .ref b1, .int (nI R), .int (nI S), .int wr, .int 0, .ref t1, .int (nI T)])), (d1, .inl (cI, 2048, .inl x)), (s1, .inl (cI, 2048, .inl fS)), (i1, .inl (cI, 2080, .inl fI)), (b1, .inl (cI, 240, .inl fB)), (t1, .inl (cI, 20, .inl fT))] H → va_D (mA [h, d1, s1, i1, b1, t1]) [(h, .inr (4, [.int (nI (32 * n)), .ref d1, .ref s1, .int bk2, .int up2, .ref i1, .ref b1, .int (nI R), .int (nI S), .int wr, .int 0, .ref t1, .int (nI T)])), (d1, .inl (cI, 2048, .inl x)), (s1, .inl (cI, 2048, .inl fS)), (i1, .inl (cI, 2080, .inl fI)), (b1, .inl (cI, 240, .inl fB)), (t1, .inl (cI, 20, .inl fT))] → va_S (mA [h, d1, s1, i1, b1, t1]) s.heap H locs → lv_has ls 2 [(1, .int (nI k)), (0, .ref h)] → W p l e (headSpec wsX3_sync ({ frames := 0, cells := 0, slots := 0, locals := 0 })).room s m ([.ref h] : List Value).toArray below meth c H locs 0 0 (MQ below (mQ dC dI [(h, .inr (4, [.int (nI (32 * n)), .ref d1, .ref s1, .int bk2, .int up2, .ref i1, .ref b1, .int (nI R), .int (nI (if thUp up2 = 0 then R else S)), .int wr, .int (thUp up2), .ref t1, .int (nI T)])), (d1, .inl (cI, 2048, .inl (if thUp up2 = 0 then cpN fD fI bS (bR - bS) else fD))), (s1, .inl (cI, 2048, .inl fS)), (i1, .inl (cI, 2080, .inl fI)), (b1, .inl (cI, 240, .inl fB)), (t1, .inl (cI, 20, .inl fT))] [h, d1, s1, i1, b1, t1] (some (.int (if thUp up2 = 0 then nI (R - S) else 0)))) ([.ref h] : List Value).toArray s 0 0 (mA [h, d1, s1, i1, b1, t1])) (F0 m 35 ls []) := by
        intro n9
        induction n9 with
        | zero => intro k x H locs ls hx9 hk1 hk2 hm; exact absurd hm (Nat.not_lt_zero _)
        | succ n9 ih =>
          intro k x H locs ls hx9 hk1 hk2 hm hP hD hS hl
          refine lv_iload_n hx hb dX3_sync_35 rfl (lv_at hl 0 rfl) ?_
          refine lv_aload_n hx hb dX3_sync_36 rfl (lv_at hl 1 rfl) ?_
          refine k_get (ci := 4) (T := TX3) (N := 13) (C := RX3) hx hb hts inX3 hown hK hP 0 rfl rfl 6 (by decide) fl23 rfl rfl dX3_sync_37 ?_
          refine lv_aload_n hx hb dX3_sync_40 rfl (lv_at hl 1 rfl) ?_
          refine k_get (ci := 4) (T := TX3) (N := 13) (C := RX3) hx hb hts inX3 hown hK hP 0 rfl rfl 7 (by decide) fl41 rfl rfl dX3_sync_41 ?_
          refine k_ialdn (i := R) hx hb hK hP 4 rfl (by omega) (by decide) dX3_sync_44 ?_
          refine k_nrm (y := nI bR) hbg ?_
          refine lv_icmp_ge (tgt := 66) hx hb dX3_sync_45 (by decide) (fun c4 => ?_) (fun c4 => ?_)
          · have nc4 : bR ≤ k := (nI_leI (a := bR) (b := k) (by omega) (by omega)).mp c4
            refine lv_aload_n hx hb dX3_sync_66 rfl (lv_at hl 1 rfl) ?_
            refine k_get (ci := 4) (T := TX3) (N := 13) (C := RX3) hx hb hts inX3 hown hK hP 0 rfl rfl 7 (by decide) fl41 rfl rfl dX3_sync_67 ?_
            refine lv_aload_n hx hb dX3_sync_70 rfl (lv_at hl 1 rfl) ?_
            refine k_get (ci := 4) (T := TX3) (N := 13) (C := RX3) hx hb hts inX3 hown hK hP 0 rfl rfl 8 (by decide) fl70 rfl rfl dX3_sync_71 ?_
            refine lv_isub hx hb dX3_sync_74 ?_
            refine k_nrm (y := nI (R - S)) (pk_sub (a := R) (b := S) (by omega)) ?_
            refine lv_istore_n (lv' := [(1, .int (nI (R - S))), (0, .ref h)]) hx hb dX3_sync_75 rfl hl (by decide) rfl (fun ls hl => ?_)
            refine lv_aload_n hx hb dX3_sync_76 rfl (lv_at hl 1 rfl) ?_
            refine lv_aload_n hx hb dX3_sync_77 rfl (lv_at hl 1 rfl) ?_
            refine k_get (ci := 4) (T := TX3) (N := 13) (C := RX3) hx hb hts inX3 hown hK hP 0 rfl rfl 7 (by decide) fl41 rfl rfl dX3_sync_78 ?_
            refine k_putf (ws' := [(h, .inr (4, [.int (nI (32 * n)), .ref d1, .ref s1, .int bk2, .int up2, .ref i1, .ref b1, .int (nI R), .int (nI R), .int wr, .int 0, .ref t1, .int (nI T)])), (d1, .inl (cI, 2048, .inl x)), (s1, .inl (cI, 2048, .inl fS)), (i1, .inl (cI, 2080, .inl fI)), (b1, .inl (cI, 240, .inl fB)), (t1, .inl (cI, 20, .inl fT))]) (ci := 4) (T := TX3) (N := 13) (C := RX3) (ty := .int) hx hb hts inX3 tyX3 tyX3_ok nmX3 hown hK hP hD hS 0 rfl rfl 8 (by decide) fl70 rfl rfl rfl rfl rfl (Nat.le_of_ble_eq_true rfl) dX3_sync_81 rfl (fun H locs hP hD hS => ?_)
            refine lv_iload_n hx hb dX3_sync_84 rfl (lv_at hl 0 rfl) ?_
            exact k_iretW hx hb hr hlocks hP hS (by have hth : thUp up2 = 0 := (by simp only [thUp, if_neg c1, if_pos c3, if_pos c4]); (simp only [hth, il0, il1, il2, il3, if_true, if_false]) <;> (rfl)) (by have hth : thUp up2 = 0 := (by simp only [thUp, if_neg c1, if_pos c3, if_pos c4]); (simp only [hth, il0, il1, il2, il3, if_true, if_false]) <;> (rw [hx9, show k = bR by omega])) dX3_sync_85
          · have nc4 : ¬ bR ≤ k := fun h9 => c4 ((nI_leI (a := bR) (b := k) (by omega) (by omega)).mpr h9)
            refine lv_aload_n hx hb dX3_sync_48 rfl (lv_at hl 1 rfl) ?_
            refine k_get (ci := 4) (T := TX3) (N := 13) (C := RX3) hx hb hts inX3 hown hK hP 0 rfl rfl 1 (by decide) fl7 rfl rfl dX3_sync_49 ?_
            refine lv_iload_n hx hb dX3_sync_52 rfl (lv_at hl 0 rfl) ?_
            refine lv_aload_n hx hb dX3_sync_53 rfl (lv_at hl 1 rfl) ?_
            refine k_get (ci := 4) (T := TX3) (N := 13) (C := RX3) hx hb hts inX3 hown hK hP 0 rfl rfl 5 (by decide) fl20 rfl rfl dX3_sync_54 ?_
            refine lv_iload_n hx hb dX3_sync_57 rfl (lv_at hl 0 rfl) ?_
            refine k_ialdn (i := k) hx hb hK hP 3 rfl (by omega) (by decide) dX3_sync_58 ?_
            refine k_iastn (ws' := [(h, .inr (4, [.int (nI (32 * n)), .ref d1, .ref s1, .int bk2, .int up2, .ref i1, .ref b1, .int (nI R), .int (nI S), .int wr, .int 0, .ref t1, .int (nI T)])), (d1, .inl (cI, 2048, .inl (upd x k (fI k)))), (s1, .inl (cI, 2048, .inl fS)), (i1, .inl (cI, 2080, .inl fI)), (b1, .inl (cI, 240, .inl fB)), (t1, .inl (cI, 20, .inl fT))]) (j := k) hx hb hK hP hD hS 1 rfl rfl (by omega) (by decide) dX3_sync_59 rfl (fun H locs hP hD hS => ?_)
            refine lv_iinc (v := nI (k + 1)) (lv' := [(1, .int (nI (k + 1))), (0, .ref h)]) hx hb dX3_sync_60 hl (k := 0) rfl (nI_1 k) (by decide) rfl (fun ls hl => ?_)
            refine lv_goto (tgt := 35) hx hb dX3_sync_63 (by decide) ?_
            exact ih (k + 1) (upd x k (fI k)) _ _ ls (by rw [show k + 1 - bS = (k - bS) + 1 by omega, cpN, ← hx9, show bS + (k - bS) = k by omega]) (by omega) (by omega) (by omega) hP hD hS (lv_sub hl [0, 1] rfl)
      exact loop35 _ bS fD _ _ ls (by rw [Nat.sub_self]; rfl) (Nat.le_refl _) hbS (Nat.lt_succ_self _) hP hD hS (lv_sub hl [0, 1] rfl)
    · exact absurd c3 (by decide)
set_option maxHeartbeats 4000000 in
set_option maxRecDepth 100000 in
theorem m_X3_cut (l : Launch) (dC : Nat → ClassId) (dI : Nat → Nat → Nat) (cI cJ : ClassId) (h : Nat) (d1 : Nat) (s1 : Nat) (i1 : Nat) (b1 : Nat) (t1 : Nat) (fD : Nat → Int32) (fS : Nat → Int32) (fI : Nat → Int32) (fB : Nat → Int32) (fT : Nat → Int32) (n : Nat) (R : Nat) (S : Nat) (T : Nat) (bk2 : Int32) (up2 : Int32) (wr : Int32) (th : Int32) (bR : Nat) (bS : Nat) (kp : Nat) (mask : Int32) (hn : n ≤ 64) (hR9 : R ≤ 227) (hS9 : S ≤ R) (hbg : fB R = nI bR) (hbs : fB S = nI bS) (hbR : bR ≤ 32 * n) (hbS : bS ≤ bR) (hkp : kp ≤ bR - bS) : cW l yX3_cut wsX3_cut ({ frames := 1, cells := 0, slots := 0, locals := 22 }) dC dI cI cJ [(h, .inr (4, [.int (nI (32 * n)), .ref d1, .ref s1, .int bk2, .int up2, .ref i1, .ref b1, .int (nI R), .int (nI S), .int wr, .int th, .ref t1, .int (nI T)])), (d1, .inl (cI, 2048, .inl fD)), (s1, .inl (cI, 2048, .inl fS)), (i1, .inl (cI, 2080, .inl fI)), (b1, .inl (cI, 240, .inl fB)), (t1, .inl (cI, 20, .inl fT))] [(h, .inr (4, [.int (nI (32 * n)), .ref d1, .ref s1, .int bk2, .int (if thCut bR bS up2 (nI kp) mask = 0 then 0 else up2), .ref i1, .ref b1, .int (nI (if thCut bR bS up2 (nI kp) mask = 0 then S else R)), .int (nI S), .int wr, .int (thCut bR bS up2 (nI kp) mask), .ref t1, .int (nI (if thCut bR bS up2 (nI kp) mask = 0 then 0 else T))])), (d1, .inl (cI, 2048, .inl (if thCut bR bS up2 (nI kp) mask = 0 then if kp < bR - bS then (if mask = 0 then cpN fD fI bS kp else upd (cpN fD fI bS kp) (bS + kp) ((fI (bS + kp)) ^^^ mask)) else cpN fD fI bS kp else fD))), (s1, .inl (cI, 2048, .inl fS)), (i1, .inl (cI, 2080, .inl fI)), (b1, .inl (cI, 240, .inl fB)), (t1, .inl (cI, 20, .inl fT))] [h, d1, s1, i1, b1, t1] [.ref h, .int (nI kp), .int mask] none := by
  refine Met.ofW (cc := cX3_cut) (maxL := 5) (ret := none) (by decide) rfl ?_
  intro p e s m args below meth c s₁ B hml hv
  obtain ⟨rfl, hP, hK, hD0⟩ := hv
  have hx := B.exec
  have hb := B.bytes
  have hr := B.returns
  have hts := atoms_spec (ws := wsX3_cut) B.pre
  have hown : s.vm.findClass RX3 = some m.cls := findClass_of_methodNamed B.named
  have hlocks := B.notSynchronized
  have inX3 : ∀ w ∈ wsX30, w ∈ wsX3_cut := fun w h => (List.mem_cons_of_mem _ (List.mem_append_right _ h))
  have fl7 := hts (.fieldLink RX3 7 "StockLogModel" "disk" "[I") (by decide +kernel)
  have fl16 := hts (.fieldLink RX3 16 "StockLogModel" "up" "Z") (by decide +kernel)
  have fl20 := hts (.fieldLink RX3 20 "StockLogModel" "image" "[I") (by decide +kernel)
  have fl23 := hts (.fieldLink RX3 23 "StockLogModel" "begin" "[I") (by decide +kernel)
  have fl33 := hts (.fieldLink RX3 33 "StockLogModel" "thrown" "I") (by decide +kernel)
  have fl41 := hts (.fieldLink RX3 41 "StockLogModel" "rows" "I") (by decide +kernel)
  have fl52 := hts (.fieldLink RX3 52 "StockLogModel" "toldMany" "I") (by decide +kernel)
  have fl70 := hts (.fieldLink RX3 70 "StockLogModel" "synced" "I") (by decide +kernel)
  have hD : va_D (mA [h, d1, s1, i1, b1, t1]) [(h, .inr (4, [.int (nI (32 * n)), .ref d1, .ref s1, .int bk2, .int up2, .ref i1, .ref b1, .int (nI R), .int (nI S), .int wr, .int th, .ref t1, .int (nI T)])), (d1, .inl (cI, 2048, .inl fD)), (s1, .inl (cI, 2048, .inl fS)), (i1, .inl (cI, 2080, .inl fI)), (b1, .inl (cI, 240, .inl fB)), (t1, .inl (cI, 20, .inl fT))] := k_Dw hD0 rfl
  have hS : va_S (mA [h, d1, s1, i1, b1, t1]) s.heap s.heap [] := va_S.rf
  have hl := lv_entry ([.ref h, .int (nI kp), .int mask]) (n := 5) (Nat.le_of_ble_eq_true rfl)
  rw [lg_entry_eq]
  generalize (lg_sl ([.ref h, .int (nI kp), .int mask]) ++ List.replicate (5 - (lg_sl ([.ref h, .int (nI kp), .int mask])).length) Slot.unset).toArray = ls at hl ⊢
  have hl : lv_has ls 5 [(0, .ref h), (1, .int (nI kp)), (2, .int mask)] := hl
  refine lv_aload_n hx hb dX3_cut_0 rfl (lv_at hl 0 rfl) ?_
  refine lv_iload_n hx hb dX3_cut_1 rfl (lv_at hl 2 rfl) ?_
  refine lv_iconst (v := 0) hx hb dX3_cut_2 (by decide) ?_
  refine lv_sipush (v := 255) hx hb dX3_cut_3 (by decide) ?_
  refine k_afP (va_runS (rest := [.ref h]) ⟨hx, hb, hml, hown, hts⟩ (m_X3_within l dC dI cI cJ mask 0 255 ) (cwS 3 hts gX3_cut_X3_within rfl rfl rfl hds_X3_within ⟨Nat.le_of_ble_eq_true rfl, Nat.le_of_ble_eq_true rfl⟩) (k_preSP hK hP [] rfl) rfl rfl hl.1 rfl (lv_room (Nat.le_of_ble_eq_true rfl)) dX3_cut_6 ⟨Nat.le_of_ble_eq_true rfl, Nat.le_of_ble_eq_true rfl⟩) ?_
  refine lv_if_eq (tgt := 35) hx hb dX3_cut_9 (by decide) (fun c1 => ?_) (fun c1 => ?_)
  · refine lv_iconst (v := 1) hx hb dX3_cut_35 (by decide) ?_
    refine lv_goto (tgt := 51) hx hb dX3_cut_36 (by decide) ?_
    refine k_putf (ws' := [(h, .inr (4, [.int (nI (32 * n)), .ref d1, .ref s1, .int bk2, .int up2, .ref i1, .ref b1, .int (nI R), .int (nI S), .int wr, .int 1, .ref t1, .int (nI T)])), (d1, .inl (cI, 2048, .inl fD)), (s1, .inl (cI, 2048, .inl fS)), (i1, .inl (cI, 2080, .inl fI)), (b1, .inl (cI, 240, .inl fB)), (t1, .inl (cI, 20, .inl fT))]) (ci := 4) (T := TX3) (N := 13) (C := RX3) (ty := .int) hx hb hts inX3 tyX3 tyX3_ok nmX3 hown hK hP hD hS 0 rfl rfl 10 (by decide) fl33 rfl rfl rfl rfl rfl (Nat.le_of_ble_eq_true rfl) dX3_cut_51 rfl (fun H locs hP hD hS => ?_)
    refine lv_aload_n hx hb dX3_cut_54 rfl (lv_at hl 0 rfl) ?_
    refine k_get (ci := 4) (T := TX3) (N := 13) (C := RX3) hx hb hts inX3 hown hK hP 0 rfl rfl 10 (by decide) fl33 rfl rfl dX3_cut_55 ?_
    refine lv_if_eq (tgt := 62) hx hb dX3_cut_58 (by decide) (fun c2 => ?_) (fun c2 => ?_)
    · exact absurd c2 (by decide)
    · exact k_vretW hx hb hr hlocks hP hS (by have hth : thCut bR bS up2 (nI kp) mask = 1 := (by simp only [thCut, if_pos c1, if_neg c2]); (simp only [hth, il0, il1, il2, il3, if_true, if_false]) <;> rfl) dX3_cut_61
  · refine lv_iload_n hx hb dX3_cut_12 rfl (lv_at hl 1 rfl) ?_
    refine lv_iconst (v := 0) hx hb dX3_cut_13 (by decide) ?_
    refine lv_aload_n hx hb dX3_cut_14 rfl (lv_at hl 0 rfl) ?_
    refine k_get (ci := 4) (T := TX3) (N := 13) (C := RX3) hx hb hts inX3 hown hK hP 0 rfl rfl 4 (by decide) fl16 rfl rfl dX3_cut_15 ?_
    refine lv_if_eq (tgt := 28) hx hb dX3_cut_18 (by decide) (fun c3 => ?_) (fun c3 => ?_)
    · refine lv_iconst (v := 0) hx hb dX3_cut_28 (by decide) ?_
      refine k_afP (va_runS (rest := [.ref h]) ⟨hx, hb, hml, hown, hts⟩ (m_X3_within l dC dI cI cJ (nI kp) 0 0 ) (cwS 3 hts gX3_cut_X3_within rfl rfl rfl hds_X3_within ⟨Nat.le_of_ble_eq_true rfl, Nat.le_of_ble_eq_true rfl⟩) (k_preSP hK hP [] rfl) rfl rfl hl.1 rfl (lv_room (Nat.le_of_ble_eq_true rfl)) dX3_cut_29 ⟨Nat.le_of_ble_eq_true rfl, Nat.le_of_ble_eq_true rfl⟩) ?_
      refine lv_if_ne (tgt := 39) hx hb dX3_cut_32 (by decide) (fun c4 => ?_) (fun c4 => ?_)
      · refine lv_aload_n hx hb dX3_cut_39 rfl (lv_at hl 0 rfl) ?_
        refine k_get (ci := 4) (T := TX3) (N := 13) (C := RX3) hx hb hts inX3 hown hK hP 0 rfl rfl 4 (by decide) fl16 rfl rfl dX3_cut_40 ?_
        refine lv_if_ne (tgt := 50) hx hb dX3_cut_43 (by decide) (fun c5 => ?_) (fun c5 => ?_)
        · exact absurd c3 c5
        · refine lv_iconst (v := 2) hx hb dX3_cut_46 (by decide) ?_
          refine lv_goto (tgt := 51) hx hb dX3_cut_47 (by decide) ?_
          refine k_putf (ws' := [(h, .inr (4, [.int (nI (32 * n)), .ref d1, .ref s1, .int bk2, .int up2, .ref i1, .ref b1, .int (nI R), .int (nI S), .int wr, .int 2, .ref t1, .int (nI T)])), (d1, .inl (cI, 2048, .inl fD)), (s1, .inl (cI, 2048, .inl fS)), (i1, .inl (cI, 2080, .inl fI)), (b1, .inl (cI, 240, .inl fB)), (t1, .inl (cI, 20, .inl fT))]) (ci := 4) (T := TX3) (N := 13) (C := RX3) (ty := .int) hx hb hts inX3 tyX3 tyX3_ok nmX3 hown hK hP hD hS 0 rfl rfl 10 (by decide) fl33 rfl rfl rfl rfl rfl (Nat.le_of_ble_eq_true rfl) dX3_cut_51 rfl (fun H locs hP hD hS => ?_)
          refine lv_aload_n hx hb dX3_cut_54 rfl (lv_at hl 0 rfl) ?_
          refine k_get (ci := 4) (T := TX3) (N := 13) (C := RX3) hx hb hts inX3 hown hK hP 0 rfl rfl 10 (by decide) fl33 rfl rfl dX3_cut_55 ?_
          refine lv_if_eq (tgt := 62) hx hb dX3_cut_58 (by decide) (fun c6 => ?_) (fun c6 => ?_)
          · exact absurd c6 (by decide)
          · exact k_vretW hx hb hr hlocks hP hS (by have hth : thCut bR bS up2 (nI kp) mask = 2 := (by simp only [thCut, if_neg c1, if_pos c3, if_neg c4, if_pos c5, if_neg c6]); (simp only [hth, il0, il1, il2, il3, if_true, if_false]) <;> rfl) dX3_cut_61
      · refine lv_iconst (v := 1) hx hb dX3_cut_35 (by decide) ?_
        refine lv_goto (tgt := 51) hx hb dX3_cut_36 (by decide) ?_
        refine k_putf (ws' := [(h, .inr (4, [.int (nI (32 * n)), .ref d1, .ref s1, .int bk2, .int up2, .ref i1, .ref b1, .int (nI R), .int (nI S), .int wr, .int 1, .ref t1, .int (nI T)])), (d1, .inl (cI, 2048, .inl fD)), (s1, .inl (cI, 2048, .inl fS)), (i1, .inl (cI, 2080, .inl fI)), (b1, .inl (cI, 240, .inl fB)), (t1, .inl (cI, 20, .inl fT))]) (ci := 4) (T := TX3) (N := 13) (C := RX3) (ty := .int) hx hb hts inX3 tyX3 tyX3_ok nmX3 hown hK hP hD hS 0 rfl rfl 10 (by decide) fl33 rfl rfl rfl rfl rfl (Nat.le_of_ble_eq_true rfl) dX3_cut_51 rfl (fun H locs hP hD hS => ?_)
        refine lv_aload_n hx hb dX3_cut_54 rfl (lv_at hl 0 rfl) ?_
        refine k_get (ci := 4) (T := TX3) (N := 13) (C := RX3) hx hb hts inX3 hown hK hP 0 rfl rfl 10 (by decide) fl33 rfl rfl dX3_cut_55 ?_
        refine lv_if_eq (tgt := 62) hx hb dX3_cut_58 (by decide) (fun c7 => ?_) (fun c7 => ?_)
        · exact absurd c7 (by decide)
        · exact k_vretW hx hb hr hlocks hP hS (by have hth : thCut bR bS up2 (nI kp) mask = 1 := (by simp only [thCut, if_neg c1, if_pos c3, if_pos c4, if_neg c7]); (simp only [hth, il0, il1, il2, il3, if_true, if_false]) <;> rfl) dX3_cut_61
    · refine lv_aload_n hx hb dX3_cut_21 rfl (lv_at hl 0 rfl) ?_
      refine k_afP (va_runV (rest := [.int 0, .int (nI kp), .ref h]) ⟨hx, hb, hml, hown, hts⟩ (m_X3_inMemory l dC dI cI cJ h d1 s1 i1 b1 t1 fD fS fI fB fT n R S T bk2 up2 wr th bR bS (by omega) (by omega) hbg hbs (by omega) (by omega)) (cwV 0 hts gX3_cut_X3_inMemory rfl rfl rfl hdv_X3_inMemory ⟨Nat.le_of_ble_eq_true rfl, Nat.le_of_ble_eq_true rfl⟩) (k_preVP hK hP [0, 1, 2, 3, 4, 5] rfl 0 rfl rfl) rfl rfl hl.1 rfl (lv_room (Nat.le_of_ble_eq_true rfl)) dX3_cut_22 ⟨Nat.le_of_ble_eq_true rfl, Nat.le_of_ble_eq_true rfl⟩) ?_
      refine lv_goto (tgt := 29) hx hb dX3_cut_25 (by decide) ?_
      refine k_afP (va_runS (rest := [.ref h]) ⟨hx, hb, hml, hown, hts⟩ (m_X3_within l dC dI cI cJ (nI kp) 0 (nI (bR - bS)) ) (cwS 3 hts gX3_cut_X3_within rfl rfl rfl hds_X3_within ⟨Nat.le_of_ble_eq_true rfl, Nat.le_of_ble_eq_true rfl⟩) (k_preSP hK hP [] rfl) rfl rfl hl.1 rfl (lv_room (Nat.le_of_ble_eq_true rfl)) dX3_cut_29 ⟨Nat.le_of_ble_eq_true rfl, Nat.le_of_ble_eq_true rfl⟩) ?_
      refine lv_if_ne (tgt := 39) hx hb dX3_cut_32 (by decide) (fun c8 => ?_) (fun c8 => ?_)
      · refine lv_aload_n hx hb dX3_cut_39 rfl (lv_at hl 0 rfl) ?_
        refine k_get (ci := 4) (T := TX3) (N := 13) (C := RX3) hx hb hts inX3 hown hK hP 0 rfl rfl 4 (by decide) fl16 rfl rfl dX3_cut_40 ?_
        refine lv_if_ne (tgt := 50) hx hb dX3_cut_43 (by decide) (fun c9 => ?_) (fun c9 => ?_)
        · refine lv_iconst (v := 0) hx hb dX3_cut_50 (by decide) ?_
          refine k_putf (ws' := [(h, .inr (4, [.int (nI (32 * n)), .ref d1, .ref s1, .int bk2, .int up2, .ref i1, .ref b1, .int (nI R), .int (nI S), .int wr, .int 0, .ref t1, .int (nI T)])), (d1, .inl (cI, 2048, .inl fD)), (s1, .inl (cI, 2048, .inl fS)), (i1, .inl (cI, 2080, .inl fI)), (b1, .inl (cI, 240, .inl fB)), (t1, .inl (cI, 20, .inl fT))]) (ci := 4) (T := TX3) (N := 13) (C := RX3) (ty := .int) hx hb hts inX3 tyX3 tyX3_ok nmX3 hown hK hP hD hS 0 rfl rfl 10 (by decide) fl33 rfl rfl rfl rfl rfl (Nat.le_of_ble_eq_true rfl) dX3_cut_51 rfl (fun H locs hP hD hS => ?_)
          refine lv_aload_n hx hb dX3_cut_54 rfl (lv_at hl 0 rfl) ?_
          refine k_get (ci := 4) (T := TX3) (N := 13) (C := RX3) hx hb hts inX3 hown hK hP 0 rfl rfl 10 (by decide) fl33 rfl rfl dX3_cut_55 ?_
          refine lv_if_eq (tgt := 62) hx hb dX3_cut_58 (by decide) (fun c10 => ?_) (fun c10 => ?_)
          · refine lv_aload_n hx hb dX3_cut_62 rfl (lv_at hl 0 rfl) ?_
            refine k_get (ci := 4) (T := TX3) (N := 13) (C := RX3) hx hb hts inX3 hown hK hP 0 rfl rfl 6 (by decide) fl23 rfl rfl dX3_cut_63 ?_
            refine lv_aload_n hx hb dX3_cut_66 rfl (lv_at hl 0 rfl) ?_
            refine k_get (ci := 4) (T := TX3) (N := 13) (C := RX3) hx hb hts inX3 hown hK hP 0 rfl rfl 8 (by decide) fl70 rfl rfl dX3_cut_67 ?_
            refine k_ialdn (i := S) hx hb hK hP 4 rfl (by omega) (by decide) dX3_cut_70 ?_
            refine k_nrm (y := nI bS) hbs ?_
            refine lv_istore_n (lv' := [(3, .int (nI bS)), (0, .ref h), (1, .int (nI kp)), (2, .int mask)]) hx hb dX3_cut_71 rfl hl (by decide) rfl (fun ls hl => ?_)
            refine lv_iload_n hx hb dX3_cut_72 rfl (lv_at hl 0 rfl) ?_
            refine lv_istore (lv' := [(4, .int (nI bS)), (3, .int (nI bS)), (0, .ref h), (1, .int (nI kp)), (2, .int mask)]) hx hb dX3_cut_73 hl (by decide) rfl (fun ls hl => ?_)
            have loop75 : ∀ (n9 : Nat) (k : Nat) (x : Nat → Int32) (H : Heap) (locs : List Loc) (ls : Array Slot), (x = cpN fD fI bS (k - bS)) → (bS ≤ k) → (k ≤ bS + kp) → bS + kp - k < n9 → va_P (dC, dI) vwCl [(h, .inr (4, [.int (nI (32 * n)), .ref d1, .ref s1, .int bk2, .int up2, .ref i1, .ref b1, .int (nI R), .int (nI S), .int wr, .int 0, .ref t1, .int (nI T)])), (d1, .inl (cI, 2048, .inl x)), (s1, .inl (cI, 2048, .inl fS)), (i1, .inl (cI, 2080, .inl fI)), (b1, .inl (cI, 240, .inl fB)), (t1, .inl (cI, 20, .inl fT))] H → va_D (mA [h, d1, s1, i1, b1, t1]) [(h, .inr (4, [.int (nI (32 * n)), .ref d1, .ref s1, .int bk2, .int up2, .ref i1, .ref b1, .int (nI R), .int (nI S), .int wr, .int 0, .ref t1, .int (nI T)])), (d1, .inl (cI, 2048, .inl x)), (s1, .inl (cI, 2048, .inl fS)), (i1, .inl (cI, 2080, .inl fI)), (b1, .inl (cI, 240, .inl fB)), (t1, .inl (cI, 20, .inl fT))] → va_S (mA [h, d1, s1, i1, b1, t1]) s.heap H locs → lv_has ls 5 [(4, .int (nI k)), (3, .int (nI bS)), (0, .ref h), (1, .int (nI kp)), (2, .int mask)] → W p l e (headSpec wsX3_cut ({ frames := 1, cells := 0, slots := 0, locals := 22 })).room s m ([.ref h, .int (nI kp), .int mask] : List Value).toArray below meth c H locs 0 0 (MQ below (mQ dC dI [(h, .inr (4, [.int (nI (32 * n)), .ref d1, .ref s1, .int bk2, .int (if thCut bR bS up2 (nI kp) mask = 0 then 0 else up2), .ref i1, .ref b1, .int (nI (if thCut bR bS up2 (nI kp) mask = 0 then S else R)), .int (nI S), .int wr, .int (thCut bR bS up2 (nI kp) mask), .ref t1, .int (nI (if thCut bR bS up2 (nI kp) mask = 0 then 0 else T))])), (d1, .inl (cI, 2048, .inl (if thCut bR bS up2 (nI kp) mask = 0 then if kp < bR - bS then (if mask = 0 then cpN fD fI bS kp else upd (cpN fD fI bS kp) (bS + kp) ((fI (bS + kp)) ^^^ mask)) else cpN fD fI bS kp else fD))), (s1, .inl (cI, 2048, .inl fS)), (i1, .inl (cI, 2080, .inl fI)), (b1, .inl (cI, 240, .inl fB)), (t1, .inl (cI, 20, .inl fT))] [h, d1, s1, i1, b1, t1] none) ([.ref h, .int (nI kp), .int mask] : List Value).toArray s 0 0 (mA [h, d1, s1, i1, b1, t1])) (F0 m 75 ls []) := by
              intro n9
              induction n9 with
              | zero => intro k x H locs ls hx9 hk1 hk2 hm; exact absurd hm (Nat.not_lt_zero _)
              | succ n9 ih =>
                intro k x H locs ls hx9 hk1 hk2 hm hP hD hS hl
                refine lv_iload hx hb dX3_cut_75 (lv_at hl 0 rfl) ?_
                refine lv_iload_n hx hb dX3_cut_77 rfl (lv_at hl 1 rfl) ?_
                refine lv_iload_n hx hb dX3_cut_78 rfl (lv_at hl 3 rfl) ?_
                refine lv_iadd hx hb dX3_cut_79 ?_
                refine k_nrm (y := nI (bS + kp)) (nI_add bS kp) ?_
                refine lv_icmp_ge (tgt := 103) hx hb dX3_cut_80 (by decide) (fun c11 => ?_) (fun c11 => ?_)
                · have nc11 : (bS + kp) ≤ k := (nI_leI (a := bS + kp) (b := k) (by omega) (by omega)).mp c11
                  refine lv_iload_n hx hb dX3_cut_103 rfl (lv_at hl 3 rfl) ?_
                  refine lv_aload_n hx hb dX3_cut_104 rfl (lv_at hl 2 rfl) ?_
                  refine k_afP (va_runV (rest := [.int (nI kp)]) ⟨hx, hb, hml, hown, hts⟩ (m_X3_inMemory l dC dI cI cJ h d1 s1 i1 b1 t1 x fS fI fB fT n R S T bk2 up2 wr 0 bR bS (by omega) (by omega) hbg hbs (by omega) (by omega)) (cwV 0 hts gX3_cut_X3_inMemory rfl rfl rfl hdv_X3_inMemory ⟨Nat.le_of_ble_eq_true rfl, Nat.le_of_ble_eq_true rfl⟩) (k_preVP hK hP [0, 1, 2, 3, 4, 5] rfl 0 rfl rfl) rfl rfl hl.1 rfl (lv_room (Nat.le_of_ble_eq_true rfl)) dX3_cut_105 ⟨Nat.le_of_ble_eq_true rfl, Nat.le_of_ble_eq_true rfl⟩) ?_
                  refine lv_icmp_ge (tgt := 133) hx hb dX3_cut_108 (by decide) (fun c12 => ?_) (fun c12 => ?_)
                  · have nc12 : (bR - bS) ≤ kp := (nI_leI (a := bR - bS) (b := kp) (by omega) (by omega)).mp c12
                    refine lv_aload_n hx hb dX3_cut_133 rfl (lv_at hl 2 rfl) ?_
                    refine lv_aload_n hx hb dX3_cut_134 rfl (lv_at hl 2 rfl) ?_
                    refine k_get (ci := 4) (T := TX3) (N := 13) (C := RX3) hx hb hts inX3 hown hK hP 0 rfl rfl 8 (by decide) fl70 rfl rfl dX3_cut_135 ?_
                    refine k_putf (ws' := [(h, .inr (4, [.int (nI (32 * n)), .ref d1, .ref s1, .int bk2, .int up2, .ref i1, .ref b1, .int (nI S), .int (nI S), .int wr, .int 0, .ref t1, .int (nI T)])), (d1, .inl (cI, 2048, .inl x)), (s1, .inl (cI, 2048, .inl fS)), (i1, .inl (cI, 2080, .inl fI)), (b1, .inl (cI, 240, .inl fB)), (t1, .inl (cI, 20, .inl fT))]) (ci := 4) (T := TX3) (N := 13) (C := RX3) (ty := .int) hx hb hts inX3 tyX3 tyX3_ok nmX3 hown hK hP hD hS 0 rfl rfl 7 (by decide) fl41 rfl rfl rfl rfl rfl (Nat.le_of_ble_eq_true rfl) dX3_cut_138 rfl (fun H locs hP hD hS => ?_)
                    refine lv_aload_n hx hb dX3_cut_141 rfl (lv_at hl 2 rfl) ?_
                    refine lv_iconst (v := 0) hx hb dX3_cut_142 (by decide) ?_
                    refine k_putf (ws' := [(h, .inr (4, [.int (nI (32 * n)), .ref d1, .ref s1, .int bk2, .int up2, .ref i1, .ref b1, .int (nI S), .int (nI S), .int wr, .int 0, .ref t1, .int 0])), (d1, .inl (cI, 2048, .inl x)), (s1, .inl (cI, 2048, .inl fS)), (i1, .inl (cI, 2080, .inl fI)), (b1, .inl (cI, 240, .inl fB)), (t1, .inl (cI, 20, .inl fT))]) (ci := 4) (T := TX3) (N := 13) (C := RX3) (ty := .int) hx hb hts inX3 tyX3 tyX3_ok nmX3 hown hK hP hD hS 0 rfl rfl 12 (by decide) fl52 rfl rfl rfl rfl rfl (Nat.le_of_ble_eq_true rfl) dX3_cut_143 rfl (fun H locs hP hD hS => ?_)
                    refine lv_aload_n hx hb dX3_cut_146 rfl (lv_at hl 2 rfl) ?_
                    refine lv_iconst (v := 0) hx hb dX3_cut_147 (by decide) ?_
                    refine k_putf (ws' := [(h, .inr (4, [.int (nI (32 * n)), .ref d1, .ref s1, .int bk2, .int 0, .ref i1, .ref b1, .int (nI S), .int (nI S), .int wr, .int 0, .ref t1, .int 0])), (d1, .inl (cI, 2048, .inl x)), (s1, .inl (cI, 2048, .inl fS)), (i1, .inl (cI, 2080, .inl fI)), (b1, .inl (cI, 240, .inl fB)), (t1, .inl (cI, 20, .inl fT))]) (ci := 4) (T := TX3) (N := 13) (C := RX3) (ty := .boolean) hx hb hts inX3 tyX3 tyX3_ok nmX3 hown hK hP hD hS 0 rfl rfl 4 (by decide) fl16 rfl rfl rfl rfl rfl (Nat.le_of_ble_eq_true rfl) dX3_cut_148 rfl (fun H locs hP hD hS => ?_)
                    exact k_vretW hx hb hr hlocks hP hS (by have hx8 : x = cpN fD fI bS kp := (by rw [hx9, show k - bS = kp by omega]); subst hx8; have hth : thCut bR bS up2 (nI kp) mask = 0 := (by simp only [thCut, if_neg c1, if_neg c3, if_neg c8, if_neg c9, if_pos c10, if_pos c11, if_pos c12]); (simp only [hth, il0, if_true, if_neg (show ¬ kp < bR - bS by omega)]) <;> rfl) dX3_cut_151
                  · have nc12 : ¬ (bR - bS) ≤ kp := fun h9 => c12 ((nI_leI (a := bR - bS) (b := kp) (by omega) (by omega)).mpr h9)
                    refine lv_iload_n hx hb dX3_cut_111 rfl (lv_at hl 4 rfl) ?_
                    refine lv_if_eq (tgt := 133) hx hb dX3_cut_112 (by decide) (fun c13 => ?_) (fun c13 => ?_)
                    · refine lv_aload_n hx hb dX3_cut_133 rfl (lv_at hl 2 rfl) ?_
                      refine lv_aload_n hx hb dX3_cut_134 rfl (lv_at hl 2 rfl) ?_
                      refine k_get (ci := 4) (T := TX3) (N := 13) (C := RX3) hx hb hts inX3 hown hK hP 0 rfl rfl 8 (by decide) fl70 rfl rfl dX3_cut_135 ?_
                      refine k_putf (ws' := [(h, .inr (4, [.int (nI (32 * n)), .ref d1, .ref s1, .int bk2, .int up2, .ref i1, .ref b1, .int (nI S), .int (nI S), .int wr, .int 0, .ref t1, .int (nI T)])), (d1, .inl (cI, 2048, .inl x)), (s1, .inl (cI, 2048, .inl fS)), (i1, .inl (cI, 2080, .inl fI)), (b1, .inl (cI, 240, .inl fB)), (t1, .inl (cI, 20, .inl fT))]) (ci := 4) (T := TX3) (N := 13) (C := RX3) (ty := .int) hx hb hts inX3 tyX3 tyX3_ok nmX3 hown hK hP hD hS 0 rfl rfl 7 (by decide) fl41 rfl rfl rfl rfl rfl (Nat.le_of_ble_eq_true rfl) dX3_cut_138 rfl (fun H locs hP hD hS => ?_)
                      refine lv_aload_n hx hb dX3_cut_141 rfl (lv_at hl 2 rfl) ?_
                      refine lv_iconst (v := 0) hx hb dX3_cut_142 (by decide) ?_
                      refine k_putf (ws' := [(h, .inr (4, [.int (nI (32 * n)), .ref d1, .ref s1, .int bk2, .int up2, .ref i1, .ref b1, .int (nI S), .int (nI S), .int wr, .int 0, .ref t1, .int 0])), (d1, .inl (cI, 2048, .inl x)), (s1, .inl (cI, 2048, .inl fS)), (i1, .inl (cI, 2080, .inl fI)), (b1, .inl (cI, 240, .inl fB)), (t1, .inl (cI, 20, .inl fT))]) (ci := 4) (T := TX3) (N := 13) (C := RX3) (ty := .int) hx hb hts inX3 tyX3 tyX3_ok nmX3 hown hK hP hD hS 0 rfl rfl 12 (by decide) fl52 rfl rfl rfl rfl rfl (Nat.le_of_ble_eq_true rfl) dX3_cut_143 rfl (fun H locs hP hD hS => ?_)
                      refine lv_aload_n hx hb dX3_cut_146 rfl (lv_at hl 2 rfl) ?_
                      refine lv_iconst (v := 0) hx hb dX3_cut_147 (by decide) ?_
                      refine k_putf (ws' := [(h, .inr (4, [.int (nI (32 * n)), .ref d1, .ref s1, .int bk2, .int 0, .ref i1, .ref b1, .int (nI S), .int (nI S), .int wr, .int 0, .ref t1, .int 0])), (d1, .inl (cI, 2048, .inl x)), (s1, .inl (cI, 2048, .inl fS)), (i1, .inl (cI, 2080, .inl fI)), (b1, .inl (cI, 240, .inl fB)), (t1, .inl (cI, 20, .inl fT))]) (ci := 4) (T := TX3) (N := 13) (C := RX3) (ty := .boolean) hx hb hts inX3 tyX3 tyX3_ok nmX3 hown hK hP hD hS 0 rfl rfl 4 (by decide) fl16 rfl rfl rfl rfl rfl (Nat.le_of_ble_eq_true rfl) dX3_cut_148 rfl (fun H locs hP hD hS => ?_)
                      exact k_vretW hx hb hr hlocks hP hS (by have hx8 : x = cpN fD fI bS kp := (by rw [hx9, show k - bS = kp by omega]); subst hx8; have hth : thCut bR bS up2 (nI kp) mask = 0 := (by simp only [thCut, if_neg c1, if_neg c3, if_neg c8, if_neg c9, if_pos c10, if_pos c11, if_neg c12, if_pos c13]); (simp only [hth, il0, if_true, if_pos (show kp < bR - bS by omega), if_pos c13]) <;> rfl) dX3_cut_151
                    · refine lv_aload_n hx hb dX3_cut_115 rfl (lv_at hl 2 rfl) ?_
                      refine k_get (ci := 4) (T := TX3) (N := 13) (C := RX3) hx hb hts inX3 hown hK hP 0 rfl rfl 1 (by decide) fl7 rfl rfl dX3_cut_116 ?_
                      refine lv_iload_n hx hb dX3_cut_119 rfl (lv_at hl 1 rfl) ?_
                      refine lv_iload_n hx hb dX3_cut_120 rfl (lv_at hl 3 rfl) ?_
                      refine lv_iadd hx hb dX3_cut_121 ?_
                      refine k_nrm (y := nI (bS + kp)) (nI_add bS kp) ?_
                      refine lv_aload_n hx hb dX3_cut_122 rfl (lv_at hl 2 rfl) ?_
                      refine k_get (ci := 4) (T := TX3) (N := 13) (C := RX3) hx hb hts inX3 hown hK hP 0 rfl rfl 5 (by decide) fl20 rfl rfl dX3_cut_123 ?_
                      refine lv_iload_n hx hb dX3_cut_126 rfl (lv_at hl 1 rfl) ?_
                      refine lv_iload_n hx hb dX3_cut_127 rfl (lv_at hl 3 rfl) ?_
                      refine lv_iadd hx hb dX3_cut_128 ?_
                      refine k_nrm (y := nI (bS + kp)) (nI_add bS kp) ?_
                      refine k_ialdn (i := bS + kp) hx hb hK hP 3 rfl (by omega) (by decide) dX3_cut_129 ?_
                      refine lv_iload_n hx hb dX3_cut_130 rfl (lv_at hl 4 rfl) ?_
                      refine lv_ixor hx hb dX3_cut_131 ?_
                      refine k_iastn (ws' := [(h, .inr (4, [.int (nI (32 * n)), .ref d1, .ref s1, .int bk2, .int up2, .ref i1, .ref b1, .int (nI R), .int (nI S), .int wr, .int 0, .ref t1, .int (nI T)])), (d1, .inl (cI, 2048, .inl (upd x (bS + kp) ((fI (bS + kp)) ^^^ mask)))), (s1, .inl (cI, 2048, .inl fS)), (i1, .inl (cI, 2080, .inl fI)), (b1, .inl (cI, 240, .inl fB)), (t1, .inl (cI, 20, .inl fT))]) (j := bS + kp) hx hb hK hP hD hS 1 rfl rfl (by omega) (by decide) dX3_cut_132 rfl (fun H locs hP hD hS => ?_)
                      refine lv_aload_n hx hb dX3_cut_133 rfl (lv_at hl 2 rfl) ?_
                      refine lv_aload_n hx hb dX3_cut_134 rfl (lv_at hl 2 rfl) ?_
                      refine k_get (ci := 4) (T := TX3) (N := 13) (C := RX3) hx hb hts inX3 hown hK hP 0 rfl rfl 8 (by decide) fl70 rfl rfl dX3_cut_135 ?_
                      refine k_putf (ws' := [(h, .inr (4, [.int (nI (32 * n)), .ref d1, .ref s1, .int bk2, .int up2, .ref i1, .ref b1, .int (nI S), .int (nI S), .int wr, .int 0, .ref t1, .int (nI T)])), (d1, .inl (cI, 2048, .inl (upd x (bS + kp) ((fI (bS + kp)) ^^^ mask)))), (s1, .inl (cI, 2048, .inl fS)), (i1, .inl (cI, 2080, .inl fI)), (b1, .inl (cI, 240, .inl fB)), (t1, .inl (cI, 20, .inl fT))]) (ci := 4) (T := TX3) (N := 13) (C := RX3) (ty := .int) hx hb hts inX3 tyX3 tyX3_ok nmX3 hown hK hP hD hS 0 rfl rfl 7 (by decide) fl41 rfl rfl rfl rfl rfl (Nat.le_of_ble_eq_true rfl) dX3_cut_138 rfl (fun H locs hP hD hS => ?_)
                      refine lv_aload_n hx hb dX3_cut_141 rfl (lv_at hl 2 rfl) ?_
                      refine lv_iconst (v := 0) hx hb dX3_cut_142 (by decide) ?_
                      refine k_putf (ws' := [(h, .inr (4, [.int (nI (32 * n)), .ref d1, .ref s1, .int bk2, .int up2, .ref i1, .ref b1, .int (nI S), .int (nI S), .int wr, .int 0, .ref t1, .int 0])), (d1, .inl (cI, 2048, .inl (upd x (bS + kp) ((fI (bS + kp)) ^^^ mask)))), (s1, .inl (cI, 2048, .inl fS)), (i1, .inl (cI, 2080, .inl fI)), (b1, .inl (cI, 240, .inl fB)), (t1, .inl (cI, 20, .inl fT))]) (ci := 4) (T := TX3) (N := 13) (C := RX3) (ty := .int) hx hb hts inX3 tyX3 tyX3_ok nmX3 hown hK hP hD hS 0 rfl rfl 12 (by decide) fl52 rfl rfl rfl rfl rfl (Nat.le_of_ble_eq_true rfl) dX3_cut_143 rfl (fun H locs hP hD hS => ?_)
                      refine lv_aload_n hx hb dX3_cut_146 rfl (lv_at hl 2 rfl) ?_
                      refine lv_iconst (v := 0) hx hb dX3_cut_147 (by decide) ?_
                      refine k_putf (ws' := [(h, .inr (4, [.int (nI (32 * n)), .ref d1, .ref s1, .int bk2, .int 0, .ref i1, .ref b1, .int (nI S), .int (nI S), .int wr, .int 0, .ref t1, .int 0])), (d1, .inl (cI, 2048, .inl (upd x (bS + kp) ((fI (bS + kp)) ^^^ mask)))), (s1, .inl (cI, 2048, .inl fS)), (i1, .inl (cI, 2080, .inl fI)), (b1, .inl (cI, 240, .inl fB)), (t1, .inl (cI, 20, .inl fT))]) (ci := 4) (T := TX3) (N := 13) (C := RX3) (ty := .boolean) hx hb hts inX3 tyX3 tyX3_ok nmX3 hown hK hP hD hS 0 rfl rfl 4 (by decide) fl16 rfl rfl rfl rfl rfl (Nat.le_of_ble_eq_true rfl) dX3_cut_148 rfl (fun H locs hP hD hS => ?_)
                      exact k_vretW hx hb hr hlocks hP hS (by have hx8 : x = cpN fD fI bS kp := (by rw [hx9, show k - bS = kp by omega]); subst hx8; have hth : thCut bR bS up2 (nI kp) mask = 0 := (by simp only [thCut, if_neg c1, if_neg c3, if_neg c8, if_neg c9, if_pos c10, if_pos c11, if_neg c12, if_neg c13]); (simp only [hth, il0, if_true, if_pos (show kp < bR - bS by omega), if_neg c13]) <;> rfl) dX3_cut_151
                · have nc11 : ¬ (bS + kp) ≤ k := fun h9 => c11 ((nI_leI (a := bS + kp) (b := k) (by omega) (by omega)).mpr h9)
                  refine lv_aload_n hx hb dX3_cut_83 rfl (lv_at hl 2 rfl) ?_
                  refine k_get (ci := 4) (T := TX3) (N := 13) (C := RX3) hx hb hts inX3 hown hK hP 0 rfl rfl 1 (by decide) fl7 rfl rfl dX3_cut_84 ?_
                  refine lv_iload hx hb dX3_cut_87 (lv_at hl 0 rfl) ?_
                  refine lv_aload_n hx hb dX3_cut_89 rfl (lv_at hl 2 rfl) ?_
                  refine k_get (ci := 4) (T := TX3) (N := 13) (C := RX3) hx hb hts inX3 hown hK hP 0 rfl rfl 5 (by decide) fl20 rfl rfl dX3_cut_90 ?_
                  refine lv_iload hx hb dX3_cut_93 (lv_at hl 0 rfl) ?_
                  refine k_ialdn (i := k) hx hb hK hP 3 rfl (by omega) (by decide) dX3_cut_95 ?_
                  refine k_iastn (ws' := [(h, .inr (4, [.int (nI (32 * n)), .ref d1, .ref s1, .int bk2, .int up2, .ref i1, .ref b1, .int (nI R), .int (nI S), .int wr, .int 0, .ref t1, .int (nI T)])), (d1, .inl (cI, 2048, .inl (upd x k (fI k)))), (s1, .inl (cI, 2048, .inl fS)), (i1, .inl (cI, 2080, .inl fI)), (b1, .inl (cI, 240, .inl fB)), (t1, .inl (cI, 20, .inl fT))]) (j := k) hx hb hK hP hD hS 1 rfl rfl (by omega) (by decide) dX3_cut_96 rfl (fun H locs hP hD hS => ?_)
                  refine lv_iinc (v := nI (k + 1)) (lv' := [(4, .int (nI (k + 1))), (3, .int (nI bS)), (0, .ref h), (1, .int (nI kp)), (2, .int mask)]) hx hb dX3_cut_97 hl (k := 0) rfl (nI_1 k) (by decide) rfl (fun ls hl => ?_)
                  refine lv_goto (tgt := 75) hx hb dX3_cut_100 (by decide) ?_
                  exact ih (k + 1) (upd x k (fI k)) _ _ ls (by rw [show k + 1 - bS = (k - bS) + 1 by omega, cpN, ← hx9, show bS + (k - bS) = k by omega]) (by omega) (by omega) (by omega) hP hD hS (lv_sub hl [0, 1, 2, 3, 4] rfl)
            exact loop75 _ bS fD _ _ ls (by rw [Nat.sub_self]; rfl) (Nat.le_refl _) (by omega) (Nat.lt_succ_self _) hP hD hS (lv_sub hl [0, 1, 2, 3, 4] rfl)
          · exact absurd c10 (by decide)
        · exact absurd c9 c3
      · refine lv_iconst (v := 1) hx hb dX3_cut_35 (by decide) ?_
        refine lv_goto (tgt := 51) hx hb dX3_cut_36 (by decide) ?_
        refine k_putf (ws' := [(h, .inr (4, [.int (nI (32 * n)), .ref d1, .ref s1, .int bk2, .int up2, .ref i1, .ref b1, .int (nI R), .int (nI S), .int wr, .int 1, .ref t1, .int (nI T)])), (d1, .inl (cI, 2048, .inl fD)), (s1, .inl (cI, 2048, .inl fS)), (i1, .inl (cI, 2080, .inl fI)), (b1, .inl (cI, 240, .inl fB)), (t1, .inl (cI, 20, .inl fT))]) (ci := 4) (T := TX3) (N := 13) (C := RX3) (ty := .int) hx hb hts inX3 tyX3 tyX3_ok nmX3 hown hK hP hD hS 0 rfl rfl 10 (by decide) fl33 rfl rfl rfl rfl rfl (Nat.le_of_ble_eq_true rfl) dX3_cut_51 rfl (fun H locs hP hD hS => ?_)
        refine lv_aload_n hx hb dX3_cut_54 rfl (lv_at hl 0 rfl) ?_
        refine k_get (ci := 4) (T := TX3) (N := 13) (C := RX3) hx hb hts inX3 hown hK hP 0 rfl rfl 10 (by decide) fl33 rfl rfl dX3_cut_55 ?_
        refine lv_if_eq (tgt := 62) hx hb dX3_cut_58 (by decide) (fun c14 => ?_) (fun c14 => ?_)
        · exact absurd c14 (by decide)
        · exact k_vretW hx hb hr hlocks hP hS (by have hth : thCut bR bS up2 (nI kp) mask = 1 := (by simp only [thCut, if_neg c1, if_neg c3, if_pos c8, if_neg c14]); (simp only [hth, il0, il1, il2, il3, if_true, if_false]) <;> rfl) dX3_cut_61
set_option maxHeartbeats 4000000 in
set_option maxRecDepth 100000 in
theorem m_X3_cutX (l : Launch) (dC : Nat → ClassId) (dI : Nat → Nat → Nat) (cI cJ : ClassId) (h : Nat) (d1 : Nat) (s1 : Nat) (i1 : Nat) (b1 : Nat) (t1 : Nat) (fD : Nat → Int32) (fS : Nat → Int32) (fI : Nat → Int32) (fB : Nat → Int32) (fT : Nat → Int32) (n : Nat) (R : Nat) (S : Nat) (T : Nat) (bk2 : Int32) (up2 : Int32) (wr : Int32) (th : Int32) (bR : Nat) (bS : Nat) (keep : Int32) (mask : Int32) (hn : n ≤ 64) (hR9 : R ≤ 227) (hS9 : S ≤ R) (hbg : fB R = nI bR) (hbs : fB S = nI bS) (hbR : bR ≤ 32 * n) (hbS : bS ≤ bR) (hk0 : mWithin keep 0 0 = 0) (hk1 : mWithin keep 0 (nI (bR - bS)) = 0) : cW l yX3_cut wsX3_cut ({ frames := 1, cells := 0, slots := 0, locals := 22 }) dC dI cI cJ [(h, .inr (4, [.int (nI (32 * n)), .ref d1, .ref s1, .int bk2, .int up2, .ref i1, .ref b1, .int (nI R), .int (nI S), .int wr, .int th, .ref t1, .int (nI T)])), (d1, .inl (cI, 2048, .inl fD)), (s1, .inl (cI, 2048, .inl fS)), (i1, .inl (cI, 2080, .inl fI)), (b1, .inl (cI, 240, .inl fB)), (t1, .inl (cI, 20, .inl fT))] [(h, .inr (4, [.int (nI (32 * n)), .ref d1, .ref s1, .int bk2, .int up2, .ref i1, .ref b1, .int (nI R), .int (nI S), .int wr, .int 1, .ref t1, .int (nI T)])), (d1, .inl (cI, 2048, .inl fD)), (s1, .inl (cI, 2048, .inl fS)), (i1, .inl (cI, 2080, .inl fI)), (b1, .inl (cI, 240, .inl fB)), (t1, .inl (cI, 20, .inl fT))] [h, d1, s1, i1, b1, t1] [.ref h, .int keep, .int mask] none := by
  refine Met.ofW (cc := cX3_cut) (maxL := 5) (ret := none) (by decide) rfl ?_
  intro p e s m args below meth c s₁ B hml hv
  obtain ⟨rfl, hP, hK, hD0⟩ := hv
  have hx := B.exec
  have hb := B.bytes
  have hr := B.returns
  have hts := atoms_spec (ws := wsX3_cut) B.pre
  have hown : s.vm.findClass RX3 = some m.cls := findClass_of_methodNamed B.named
  have hlocks := B.notSynchronized
  have inX3 : ∀ w ∈ wsX30, w ∈ wsX3_cut := fun w h => (List.mem_cons_of_mem _ (List.mem_append_right _ h))
  have fl16 := hts (.fieldLink RX3 16 "StockLogModel" "up" "Z") (by decide +kernel)
  have fl33 := hts (.fieldLink RX3 33 "StockLogModel" "thrown" "I") (by decide +kernel)
  have hD : va_D (mA [h, d1, s1, i1, b1, t1]) [(h, .inr (4, [.int (nI (32 * n)), .ref d1, .ref s1, .int bk2, .int up2, .ref i1, .ref b1, .int (nI R), .int (nI S), .int wr, .int th, .ref t1, .int (nI T)])), (d1, .inl (cI, 2048, .inl fD)), (s1, .inl (cI, 2048, .inl fS)), (i1, .inl (cI, 2080, .inl fI)), (b1, .inl (cI, 240, .inl fB)), (t1, .inl (cI, 20, .inl fT))] := k_Dw hD0 rfl
  have hS : va_S (mA [h, d1, s1, i1, b1, t1]) s.heap s.heap [] := va_S.rf
  have hl := lv_entry ([.ref h, .int keep, .int mask]) (n := 5) (Nat.le_of_ble_eq_true rfl)
  rw [lg_entry_eq]
  generalize (lg_sl ([.ref h, .int keep, .int mask]) ++ List.replicate (5 - (lg_sl ([.ref h, .int keep, .int mask])).length) Slot.unset).toArray = ls at hl ⊢
  have hl : lv_has ls 5 [(0, .ref h), (1, .int keep), (2, .int mask)] := hl
  refine lv_aload_n hx hb dX3_cut_0 rfl (lv_at hl 0 rfl) ?_
  refine lv_iload_n hx hb dX3_cut_1 rfl (lv_at hl 2 rfl) ?_
  refine lv_iconst (v := 0) hx hb dX3_cut_2 (by decide) ?_
  refine lv_sipush (v := 255) hx hb dX3_cut_3 (by decide) ?_
  refine k_afP (va_runS (rest := [.ref h]) ⟨hx, hb, hml, hown, hts⟩ (m_X3_within l dC dI cI cJ mask 0 255 ) (cwS 3 hts gX3_cut_X3_within rfl rfl rfl hds_X3_within ⟨Nat.le_of_ble_eq_true rfl, Nat.le_of_ble_eq_true rfl⟩) (k_preSP hK hP [] rfl) rfl rfl hl.1 rfl (lv_room (Nat.le_of_ble_eq_true rfl)) dX3_cut_6 ⟨Nat.le_of_ble_eq_true rfl, Nat.le_of_ble_eq_true rfl⟩) ?_
  refine lv_if_eq (tgt := 35) hx hb dX3_cut_9 (by decide) (fun c1 => ?_) (fun c1 => ?_)
  · refine lv_iconst (v := 1) hx hb dX3_cut_35 (by decide) ?_
    refine lv_goto (tgt := 51) hx hb dX3_cut_36 (by decide) ?_
    refine k_putf (ws' := [(h, .inr (4, [.int (nI (32 * n)), .ref d1, .ref s1, .int bk2, .int up2, .ref i1, .ref b1, .int (nI R), .int (nI S), .int wr, .int 1, .ref t1, .int (nI T)])), (d1, .inl (cI, 2048, .inl fD)), (s1, .inl (cI, 2048, .inl fS)), (i1, .inl (cI, 2080, .inl fI)), (b1, .inl (cI, 240, .inl fB)), (t1, .inl (cI, 20, .inl fT))]) (ci := 4) (T := TX3) (N := 13) (C := RX3) (ty := .int) hx hb hts inX3 tyX3 tyX3_ok nmX3 hown hK hP hD hS 0 rfl rfl 10 (by decide) fl33 rfl rfl rfl rfl rfl (Nat.le_of_ble_eq_true rfl) dX3_cut_51 rfl (fun H locs hP hD hS => ?_)
    refine lv_aload_n hx hb dX3_cut_54 rfl (lv_at hl 0 rfl) ?_
    refine k_get (ci := 4) (T := TX3) (N := 13) (C := RX3) hx hb hts inX3 hown hK hP 0 rfl rfl 10 (by decide) fl33 rfl rfl dX3_cut_55 ?_
    refine lv_if_eq (tgt := 62) hx hb dX3_cut_58 (by decide) (fun c2 => ?_) (fun c2 => ?_)
    · exact absurd c2 (by decide)
    · exact k_vretW hx hb hr hlocks hP hS rfl dX3_cut_61
  · refine lv_iload_n hx hb dX3_cut_12 rfl (lv_at hl 1 rfl) ?_
    refine lv_iconst (v := 0) hx hb dX3_cut_13 (by decide) ?_
    refine lv_aload_n hx hb dX3_cut_14 rfl (lv_at hl 0 rfl) ?_
    refine k_get (ci := 4) (T := TX3) (N := 13) (C := RX3) hx hb hts inX3 hown hK hP 0 rfl rfl 4 (by decide) fl16 rfl rfl dX3_cut_15 ?_
    refine lv_if_eq (tgt := 28) hx hb dX3_cut_18 (by decide) (fun c3 => ?_) (fun c3 => ?_)
    · refine lv_iconst (v := 0) hx hb dX3_cut_28 (by decide) ?_
      refine k_afP (va_runS (rest := [.ref h]) ⟨hx, hb, hml, hown, hts⟩ (m_X3_within l dC dI cI cJ keep 0 0 ) (cwS 3 hts gX3_cut_X3_within rfl rfl rfl hds_X3_within ⟨Nat.le_of_ble_eq_true rfl, Nat.le_of_ble_eq_true rfl⟩) (k_preSP hK hP [] rfl) rfl rfl hl.1 rfl (lv_room (Nat.le_of_ble_eq_true rfl)) dX3_cut_29 ⟨Nat.le_of_ble_eq_true rfl, Nat.le_of_ble_eq_true rfl⟩) ?_
      refine lv_if_ne (tgt := 39) hx hb dX3_cut_32 (by decide) (fun c4 => ?_) (fun c4 => ?_)
      · exact absurd hk0 c4
      · refine lv_iconst (v := 1) hx hb dX3_cut_35 (by decide) ?_
        refine lv_goto (tgt := 51) hx hb dX3_cut_36 (by decide) ?_
        refine k_putf (ws' := [(h, .inr (4, [.int (nI (32 * n)), .ref d1, .ref s1, .int bk2, .int up2, .ref i1, .ref b1, .int (nI R), .int (nI S), .int wr, .int 1, .ref t1, .int (nI T)])), (d1, .inl (cI, 2048, .inl fD)), (s1, .inl (cI, 2048, .inl fS)), (i1, .inl (cI, 2080, .inl fI)), (b1, .inl (cI, 240, .inl fB)), (t1, .inl (cI, 20, .inl fT))]) (ci := 4) (T := TX3) (N := 13) (C := RX3) (ty := .int) hx hb hts inX3 tyX3 tyX3_ok nmX3 hown hK hP hD hS 0 rfl rfl 10 (by decide) fl33 rfl rfl rfl rfl rfl (Nat.le_of_ble_eq_true rfl) dX3_cut_51 rfl (fun H locs hP hD hS => ?_)
        refine lv_aload_n hx hb dX3_cut_54 rfl (lv_at hl 0 rfl) ?_
        refine k_get (ci := 4) (T := TX3) (N := 13) (C := RX3) hx hb hts inX3 hown hK hP 0 rfl rfl 10 (by decide) fl33 rfl rfl dX3_cut_55 ?_
        refine lv_if_eq (tgt := 62) hx hb dX3_cut_58 (by decide) (fun c5 => ?_) (fun c5 => ?_)
        · exact absurd c5 (by decide)
        · exact k_vretW hx hb hr hlocks hP hS rfl dX3_cut_61
    · refine lv_aload_n hx hb dX3_cut_21 rfl (lv_at hl 0 rfl) ?_
      refine k_afP (va_runV (rest := [.int 0, .int keep, .ref h]) ⟨hx, hb, hml, hown, hts⟩ (m_X3_inMemory l dC dI cI cJ h d1 s1 i1 b1 t1 fD fS fI fB fT n R S T bk2 up2 wr th bR bS (by omega) (by omega) hbg hbs (by omega) (by omega)) (cwV 0 hts gX3_cut_X3_inMemory rfl rfl rfl hdv_X3_inMemory ⟨Nat.le_of_ble_eq_true rfl, Nat.le_of_ble_eq_true rfl⟩) (k_preVP hK hP [0, 1, 2, 3, 4, 5] rfl 0 rfl rfl) rfl rfl hl.1 rfl (lv_room (Nat.le_of_ble_eq_true rfl)) dX3_cut_22 ⟨Nat.le_of_ble_eq_true rfl, Nat.le_of_ble_eq_true rfl⟩) ?_
      refine lv_goto (tgt := 29) hx hb dX3_cut_25 (by decide) ?_
      refine k_afP (va_runS (rest := [.ref h]) ⟨hx, hb, hml, hown, hts⟩ (m_X3_within l dC dI cI cJ keep 0 (nI (bR - bS)) ) (cwS 3 hts gX3_cut_X3_within rfl rfl rfl hds_X3_within ⟨Nat.le_of_ble_eq_true rfl, Nat.le_of_ble_eq_true rfl⟩) (k_preSP hK hP [] rfl) rfl rfl hl.1 rfl (lv_room (Nat.le_of_ble_eq_true rfl)) dX3_cut_29 ⟨Nat.le_of_ble_eq_true rfl, Nat.le_of_ble_eq_true rfl⟩) ?_
      refine lv_if_ne (tgt := 39) hx hb dX3_cut_32 (by decide) (fun c6 => ?_) (fun c6 => ?_)
      · exact absurd hk1 c6
      · refine lv_iconst (v := 1) hx hb dX3_cut_35 (by decide) ?_
        refine lv_goto (tgt := 51) hx hb dX3_cut_36 (by decide) ?_
        refine k_putf (ws' := [(h, .inr (4, [.int (nI (32 * n)), .ref d1, .ref s1, .int bk2, .int up2, .ref i1, .ref b1, .int (nI R), .int (nI S), .int wr, .int 1, .ref t1, .int (nI T)])), (d1, .inl (cI, 2048, .inl fD)), (s1, .inl (cI, 2048, .inl fS)), (i1, .inl (cI, 2080, .inl fI)), (b1, .inl (cI, 240, .inl fB)), (t1, .inl (cI, 20, .inl fT))]) (ci := 4) (T := TX3) (N := 13) (C := RX3) (ty := .int) hx hb hts inX3 tyX3 tyX3_ok nmX3 hown hK hP hD hS 0 rfl rfl 10 (by decide) fl33 rfl rfl rfl rfl rfl (Nat.le_of_ble_eq_true rfl) dX3_cut_51 rfl (fun H locs hP hD hS => ?_)
        refine lv_aload_n hx hb dX3_cut_54 rfl (lv_at hl 0 rfl) ?_
        refine k_get (ci := 4) (T := TX3) (N := 13) (C := RX3) hx hb hts inX3 hown hK hP 0 rfl rfl 10 (by decide) fl33 rfl rfl dX3_cut_55 ?_
        refine lv_if_eq (tgt := 62) hx hb dX3_cut_58 (by decide) (fun c7 => ?_) (fun c7 => ?_)
        · exact absurd c7 (by decide)
        · exact k_vretW hx hb hr hlocks hP hS rfl dX3_cut_61
