theorem hdn_X0_init : yX0_init.cls ≠ "java/lang/invoke/MethodHandle" ∧ yX0_init.cls ≠ "java/lang/invoke/VarHandle" ∧ (parseMethodDescriptor yX0_init.desc).map (fun d => d.parameters.length) = some 1 := by decide +kernel
theorem hdv_X0_init : yX0_init.cls = RX0 ∧ yX0_init.cls ≠ "java/lang/invoke/MethodHandle" ∧ yX0_init.cls ≠ "java/lang/invoke/VarHandle" ∧ (parseMethodDescriptor yX0_init.desc).map (fun d => d.parameters.length) = some 1 := ⟨rfl, hdn_X0_init⟩
theorem hdn_X1_init : yX1_init.cls ≠ "java/lang/invoke/MethodHandle" ∧ yX1_init.cls ≠ "java/lang/invoke/VarHandle" ∧ (parseMethodDescriptor yX1_init.desc).map (fun d => d.parameters.length) = some 1 := by decide +kernel
theorem hdv_X1_init : yX1_init.cls = RX1 ∧ yX1_init.cls ≠ "java/lang/invoke/MethodHandle" ∧ yX1_init.cls ≠ "java/lang/invoke/VarHandle" ∧ (parseMethodDescriptor yX1_init.desc).map (fun d => d.parameters.length) = some 1 := ⟨rfl, hdn_X1_init⟩
theorem hdn_X2_init : yX2_init.cls ≠ "java/lang/invoke/MethodHandle" ∧ yX2_init.cls ≠ "java/lang/invoke/VarHandle" ∧ (parseMethodDescriptor yX2_init.desc).map (fun d => d.parameters.length) = some 1 := by decide +kernel
theorem hdv_X2_init : yX2_init.cls = RX2 ∧ yX2_init.cls ≠ "java/lang/invoke/MethodHandle" ∧ yX2_init.cls ≠ "java/lang/invoke/VarHandle" ∧ (parseMethodDescriptor yX2_init.desc).map (fun d => d.parameters.length) = some 1 := ⟨rfl, hdn_X2_init⟩
theorem hdn_X3_init : yX3_init.cls ≠ "java/lang/invoke/MethodHandle" ∧ yX3_init.cls ≠ "java/lang/invoke/VarHandle" ∧ (parseMethodDescriptor yX3_init.desc).map (fun d => d.parameters.length) = some 1 := by decide +kernel
theorem hdv_X3_init : yX3_init.cls = RX3 ∧ yX3_init.cls ≠ "java/lang/invoke/MethodHandle" ∧ yX3_init.cls ≠ "java/lang/invoke/VarHandle" ∧ (parseMethodDescriptor yX3_init.desc).map (fun d => d.parameters.length) = some 1 := ⟨rfl, hdn_X3_init⟩
set_option maxHeartbeats 4000000 in
set_option maxRecDepth 100000 in
theorem m_X0_init (l : Launch) (dC : Nat → ClassId) (dI : Nat → Nat → Nat) (cI cJ : ClassId) (h0 : Nat) (N : Nat) (sz : Nat) (hN : N ≤ 2048) : cC l yX0_init wsX0_init ({ frames := 1, cells := 1, slots := 2048, locals := 14 }) dC dI cI cJ [(h0, .inr (1, [.null]))] sz [.ref h0, .int (nI N)] (fun w1 => ∃ a0 : Nat, w1 = [(h0, .inr (1, [.ref a0])), (a0, .inl (cI, N, .inl (fun _ => 0)))]) 1 2048 := by
  refine Met.ofW (cc := cX0_init) (maxL := 2) (ret := none) (by decide) rfl ?_
  intro p e s m args below meth c s₁ B hml hv
  obtain ⟨rfl, hsz, hP, hK, hD0⟩ := hv
  have hx := B.exec
  have hb := B.bytes
  have hr := B.returns
  have hts := atoms_spec (ws := wsX0_init) B.pre
  have hown : s.vm.findClass RX0 = some m.cls := findClass_of_methodNamed B.named
  have hlocks := B.notSynchronized
  have hin : meth.name = "<init>" := (name_of_methodNamed B.named B.method).1
  subst hsz
  have inX0 : ∀ w ∈ wsX00, w ∈ wsX0_init := fun w h => (List.mem_cons_of_mem _ (List.mem_append_right _ h))
  have fl15 := hts (.fieldLink RX0 15 "StockLog$Cells" "cells" "[I") (by decide +kernel)
  have hD := hD0.self (sz := s.heap.size)
  generalize hAe : va_A [(h0, .inr (1, [.null]))] s.heap.size = A at hD ⊢
  have hA : ∀ q : Nat, s.heap.size ≤ q → A q := fun q h => by rw [← hAe]; exact Or.inr h
  have hS : va_S A s.heap s.heap [] := va_S.rf
  have hP : va_P (dC, dI) vwCl [(h0, .inr (1, [.null]))] s.heap := hP
  have hl := lv_entry ([.ref h0, .int (nI N)]) (n := 2) (Nat.le_of_ble_eq_true rfl)
  rw [lg_entry_eq]
  generalize (lg_sl ([.ref h0, .int (nI N)]) ++ List.replicate (2 - (lg_sl ([.ref h0, .int (nI N)])).length) Slot.unset).toArray = ls at hl ⊢
  have hl : lv_has ls 2 [(0, .ref h0), (1, .int (nI N))] := hl
  refine lv_aload_n hx hb dX0_init_0 rfl (lv_at hl 0 rfl) ?_
  refine W.objInit hx hb hown (hts (.methodLink RX0 3 objectInit) (by decide +kernel)) (hts (.instanceMethod objectInit) (by decide +kernel)) (hts (.code objectInit ⟨#[0xb1]⟩ 1 none) (by decide +kernel)) rfl (by rw [hml]; exact hl.1) rfl dX0_init_1 (Nat.le_of_ble_eq_true rfl) (Nat.le_of_ble_eq_true rfl) ?_
  refine W.eq (g2 := F0 m 4 ls []) rfl ?_
  refine lv_aload_n hx hb dX0_init_4 rfl (lv_at hl 0 rfl) ?_
  refine lv_iconst (v := 0) hx hb dX0_init_5 (by decide) ?_
  refine lv_iload_n hx hb dX0_init_6 rfl (lv_at hl 1 rfl) ?_
  refine va_mmax hx hb (hml.trans hl.1.symm) hown (hts (.methodLink RX0 9 Lib.Math.max.name) (by decide +kernel)) (hts (.static Lib.Math.max.name) (by decide +kernel)) (hts (.initialized "java/lang/Math") (by decide +kernel)) (hts (.code Lib.Math.max.name Lib.Math.max.code 2 (some .int)) (by decide +kernel)) (Nat.le_of_ble_eq_true rfl) (Nat.le_of_ble_eq_true rfl) (Nat.le_of_ble_eq_true rfl) (Nat.le_of_ble_eq_true rfl) dX0_init_7 ?_
  refine k_nrm (y := nI N) (mmax0 (by omega)) ?_
  refine k_newa (N := N) hx hb (hts (.arrayClass .int) (by decide +kernel)) hK hP hD hS hA (by omega) (Nat.le_of_ble_eq_true rfl) (by show _ ≤ 2048; omega) dX0_init_10 (fun q10 H hP hD hS => ?_)
  have hP : va_P (dC, dI) vwCl [(h0, .inr (1, [.null])), (q10, .inl (cI, N, .inl (fun _ => 0)))] H := hP
  have hD : va_D A [(h0, .inr (1, [.null])), (q10, .inl (cI, N, .inl (fun _ => 0)))] := hD
  refine W.widen (k := 1) (n := 2048) (Nat.le_of_ble_eq_true rfl) (by show _ ≤ 2048; omega) ?_
  refine va_putF (D := (dC, dI)) (ci := 1) (v := .ref q10) (ty := .array .int) (C := RX0) (T := TX0) (N := 1) hx hb hts inX0 tyX0 tyX0_ok nmX0 hown hK.1 hP hD hS 0 rfl rfl 0 (by decide) fl15 (fun _ h9 => h9) rfl hin rfl (by decide +kernel) rfl rfl (Nat.le_of_ble_eq_true rfl) dX0_init_12 (fun H locs hP hD hS => ?_)
  have hP : va_P (dC, dI) vwCl [(h0, .inr (1, [.ref q10])), (q10, .inl (cI, N, .inl (fun _ => 0)))] H := hP
  have hD : va_D A [(h0, .inr (1, [.ref q10])), (q10, .inl (cI, N, .inl (fun _ => 0)))] := hD
  have hP9 := hP.sub (ws' := [(h0, .inr (1, [.ref q10])), (q10, .inl (cI, N, .inl (fun _ => 0)))]) [0, 1] rfl
  have hD9 := hD.sub (ws' := [(h0, .inr (1, [.ref q10])), (q10, .inl (cI, N, .inl (fun _ => 0)))]) [0, 1] (by decide) rfl
  refine W.widen (k := 1) (n := 2048) (Nat.le_of_ble_eq_true rfl) (Nat.le_of_ble_eq_true rfl) ?_
  exact W.vret hx hb hr (fun t ht hW => ⟨rfl, ⟨_, ⟨q10, rfl⟩, by rw [ht]; exact hP9, by rw [hAe]; exact hD9⟩, by rw [hAe]; exact hS.F ht⟩) hS.2.2 dX0_init_15
set_option maxHeartbeats 4000000 in
set_option maxRecDepth 100000 in
theorem m_X1_init (l : Launch) (dC : Nat → ClassId) (dI : Nat → Nat → Nat) (cI cJ : ClassId) (r : Nat) (z : Nat) (sz : Nat) (hz : z ≤ 2048) : cC l yX1_init wsX1_init ({ frames := 2, cells := 8, slots := 8196, locals := 35 }) dC dI cI cJ [(r, .inr (2, [.null, .null, .null, .null, .int 0, .int 0, .int 0, .int 0]))] sz [.ref r, .int (nI z)] (fun w1 => ∃ qi ai qs aS qk ak qt aT : Nat, w1 = [(r, .inr (2, [.ref qi, .ref qs, .ref qk, .ref qt, .int 0, .int 0, .int 0, .int 0])), (qi, .inr (1, [.ref ai])), (ai, .inl (cI, z, .inl (fun _ => 0))), (qs, .inr (1, [.ref aS])), (aS, .inl (cI, (z / 9 + 1), .inl (fun _ => 0))), (qk, .inr (1, [.ref ak])), (ak, .inl (cI, 6, .inl (fun _ => 0))), (qt, .inr (1, [.ref aT])), (aT, .inl (cI, 8, .inl (fun _ => 0)))]) 8 8196 := by
  refine Met.ofW (cc := cX1_init) (maxL := 2) (ret := none) (by decide) rfl ?_
  intro p e s m args below meth c s₁ B hml hv
  obtain ⟨rfl, hsz, hP, hK, hD0⟩ := hv
  have hx := B.exec
  have hb := B.bytes
  have hr := B.returns
  have hts := atoms_spec (ws := wsX1_init) B.pre
  have hown : s.vm.findClass RX1 = some m.cls := findClass_of_methodNamed B.named
  have hlocks := B.notSynchronized
  have hin : meth.name = "<init>" := (name_of_methodNamed B.named B.method).1
  subst hsz
  have inX0 : ∀ w ∈ wsX00, w ∈ wsX1_init := fun w h => (List.mem_cons_of_mem _ (List.mem_append_left _ (List.mem_append_right _ h)))
  have inX1 : ∀ w ∈ wsX10, w ∈ wsX1_init := fun w h => (List.mem_cons_of_mem _ (List.mem_append_right _ h))
  have fl14 := hts (.fieldLink RX1 14 "StockLog$Rows" "image" "LStockLog$Cells;") (by decide +kernel)
  have fl20 := hts (.fieldLink RX1 20 "StockLog$Rows" "starts" "LStockLog$Cells;") (by decide +kernel)
  have fl23 := hts (.fieldLink RX1 23 "StockLog$Rows" "ofKind" "LStockLog$Cells;") (by decide +kernel)
  have fl26 := hts (.fieldLink RX1 26 "StockLog$Rows" "state" "LStockLog$Cells;") (by decide +kernel)
  have hD := hD0.self (sz := s.heap.size)
  generalize hAe : va_A [(r, .inr (2, [.null, .null, .null, .null, .int 0, .int 0, .int 0, .int 0]))] s.heap.size = A at hD ⊢
  have hA : ∀ q : Nat, s.heap.size ≤ q → A q := fun q h => by rw [← hAe]; exact Or.inr h
  have hS : va_S A s.heap s.heap [] := va_S.rf
  have hP : va_P (dC, dI) vwCl [(r, .inr (2, [.null, .null, .null, .null, .int 0, .int 0, .int 0, .int 0]))] s.heap := hP
  have hl := lv_entry ([.ref r, .int (nI z)]) (n := 2) (Nat.le_of_ble_eq_true rfl)
  rw [lg_entry_eq]
  generalize (lg_sl ([.ref r, .int (nI z)]) ++ List.replicate (2 - (lg_sl ([.ref r, .int (nI z)])).length) Slot.unset).toArray = ls at hl ⊢
  have hl : lv_has ls 2 [(0, .ref r), (1, .int (nI z))] := hl
  refine lv_aload_n hx hb dX1_init_0 rfl (lv_at hl 0 rfl) ?_
  refine W.objInit hx hb hown (hts (.methodLink RX1 3 objectInit) (by decide +kernel)) (hts (.instanceMethod objectInit) (by decide +kernel)) (hts (.code objectInit ⟨#[0xb1]⟩ 1 none) (by decide +kernel)) rfl (by rw [hml]; exact hl.1) rfl dX1_init_1 (Nat.le_of_ble_eq_true rfl) (Nat.le_of_ble_eq_true rfl) ?_
  refine W.eq (g2 := F0 m 4 ls []) rfl ?_
  refine lv_aload_n hx hb dX1_init_4 rfl (lv_at hl 0 rfl) ?_
  refine va_new (D := (dC, dI)) (ci := 1) (fs := [.null]) (C := RX0) (T := TX0) (N := 1) hx hb hts inX0 tyX0 tyX0_ok hown (hts (.classLink RX1 9 RX0) (by decide +kernel)) (hts (.instantiable RX0 1) (by decide +kernel)) (hts (.initialized RX0) (by decide +kernel)) hK.1 hP hD hS hA rfl (fun j hj => by rcases (show j = 0 by omega) with rfl <;> rfl) (Nat.le_of_ble_eq_true rfl) (Nat.le_of_ble_eq_true rfl) dX1_init_5 (fun q5 H hP hD hS => ?_)
  have hP : va_P (dC, dI) vwCl [(r, .inr (2, [.null, .null, .null, .null, .int 0, .int 0, .int 0, .int 0])), (q5, .inr (1, [.null]))] H := hP
  have hD : va_D A [(r, .inr (2, [.null, .null, .null, .null, .int 0, .int 0, .int 0, .int 0])), (q5, .inr (1, [.null]))] := hD
  refine lv_dup hx hb dX1_init_8 rfl ?_
  refine lv_iload_n hx hb dX1_init_9 rfl (lv_at hl 1 rfl) ?_
  refine k_afC (wr := [(r, .inr (2, [.null, .null, .null, .null, .int 0, .int 0, .int 0, .int 0]))]) (va_runI (rest := [.ref q5, .ref r]) ⟨hx, hb, hml, hown, hts⟩ (m_X0_init l dC dI cI cJ q5 z H.size (by omega)) (cwI 1 hts gX1_init_X0_init rfl rfl rfl (hts (.initialized RX0) (by decide +kernel)) (hts (.methodLink RX1 11 yX0_init) (by decide +kernel)) (hts (.instanceMethod yX0_init) (by decide +kernel)) rfl hdn_X0_init ⟨Nat.le_of_ble_eq_true rfl, Nat.le_of_ble_eq_true rfl⟩) (k_preC hK hP hD [1] rfl rfl) rfl rfl hl.1 rfl (lv_room (Nat.le_of_ble_eq_true rfl)) dX1_init_10 ⟨Nat.le_of_ble_eq_true rfl, Nat.le_of_ble_eq_true rfl⟩) hP hD hS hA [1] [0] rfl rfl (by decide) (by decide) (fun w1 H locs hq hP hD hS => ?_)
  obtain ⟨a0_10, rfl⟩ := hq
  have hP : va_P (dC, dI) vwCl [(r, .inr (2, [.null, .null, .null, .null, .int 0, .int 0, .int 0, .int 0])), (q5, .inr (1, [.ref a0_10])), (a0_10, .inl (cI, z, .inl (fun _ => 0)))] H := hP
  have hD : va_D A [(r, .inr (2, [.null, .null, .null, .null, .int 0, .int 0, .int 0, .int 0])), (q5, .inr (1, [.ref a0_10])), (a0_10, .inl (cI, z, .inl (fun _ => 0)))] := hD
  refine va_putF (D := (dC, dI)) (ci := 2) (v := .ref q5) (ty := .object "StockLog$Cells") (C := RX1) (T := TX1) (N := 8) hx hb hts inX1 tyX1 tyX1_ok nmX1 hown hK.1 hP hD hS 0 rfl rfl 0 (by decide) fl14 (fun _ h9 => h9) rfl hin rfl (by decide +kernel) rfl rfl (Nat.le_of_ble_eq_true rfl) dX1_init_13 (fun H locs hP hD hS => ?_)
  have hP : va_P (dC, dI) vwCl [(r, .inr (2, [.ref q5, .null, .null, .null, .int 0, .int 0, .int 0, .int 0])), (q5, .inr (1, [.ref a0_10])), (a0_10, .inl (cI, z, .inl (fun _ => 0)))] H := hP
  have hD : va_D A [(r, .inr (2, [.ref q5, .null, .null, .null, .int 0, .int 0, .int 0, .int 0])), (q5, .inr (1, [.ref a0_10])), (a0_10, .inl (cI, z, .inl (fun _ => 0)))] := hD
  refine lv_aload_n hx hb dX1_init_16 rfl (lv_at hl 0 rfl) ?_
  refine va_new (D := (dC, dI)) (ci := 1) (fs := [.null]) (C := RX0) (T := TX0) (N := 1) hx hb hts inX0 tyX0 tyX0_ok hown (hts (.classLink RX1 9 RX0) (by decide +kernel)) (hts (.instantiable RX0 1) (by decide +kernel)) (hts (.initialized RX0) (by decide +kernel)) hK.1 hP hD hS hA rfl (fun j hj => by rcases (show j = 0 by omega) with rfl <;> rfl) (Nat.le_of_ble_eq_true rfl) (Nat.le_of_ble_eq_true rfl) dX1_init_17 (fun q17 H hP hD hS => ?_)
  have hP : va_P (dC, dI) vwCl [(r, .inr (2, [.ref q5, .null, .null, .null, .int 0, .int 0, .int 0, .int 0])), (q5, .inr (1, [.ref a0_10])), (a0_10, .inl (cI, z, .inl (fun _ => 0))), (q17, .inr (1, [.null]))] H := hP
  have hD : va_D A [(r, .inr (2, [.ref q5, .null, .null, .null, .int 0, .int 0, .int 0, .int 0])), (q5, .inr (1, [.ref a0_10])), (a0_10, .inl (cI, z, .inl (fun _ => 0))), (q17, .inr (1, [.null]))] := hD
  refine lv_dup hx hb dX1_init_20 rfl ?_
  refine lv_iload_n hx hb dX1_init_21 rfl (lv_at hl 1 rfl) ?_
  refine lv_bipush (v := 9) hx hb dX1_init_22 (by decide) ?_
  refine lv_idiv hx hb dX1_init_24 (by decide) ?_
  refine k_nrm (y := nI (z / 9)) (pk_div (a := z) (d := 9) (by omega) (by decide) (by decide)) ?_
  refine lv_iconst (v := 1) hx hb dX1_init_25 (by decide) ?_
  refine lv_iadd hx hb dX1_init_26 ?_
  refine k_nrm (y := nI ((z / 9) + 1)) (nI_add (z / 9) 1) ?_
  refine k_afC (wr := [(r, .inr (2, [.ref q5, .null, .null, .null, .int 0, .int 0, .int 0, .int 0])), (q5, .inr (1, [.ref a0_10])), (a0_10, .inl (cI, z, .inl (fun _ => 0)))]) (va_runI (rest := [.ref q17, .ref r]) ⟨hx, hb, hml, hown, hts⟩ (m_X0_init l dC dI cI cJ q17 ((z / 9) + 1) H.size (by omega)) (cwI 1 hts gX1_init_X0_init rfl rfl rfl (hts (.initialized RX0) (by decide +kernel)) (hts (.methodLink RX1 11 yX0_init) (by decide +kernel)) (hts (.instanceMethod yX0_init) (by decide +kernel)) rfl hdn_X0_init ⟨Nat.le_of_ble_eq_true rfl, Nat.le_of_ble_eq_true rfl⟩) (k_preC hK hP hD [3] rfl rfl) rfl rfl hl.1 rfl (lv_room (Nat.le_of_ble_eq_true rfl)) dX1_init_27 ⟨Nat.le_of_ble_eq_true rfl, Nat.le_of_ble_eq_true rfl⟩) hP hD hS hA [3] [0, 1, 2] rfl rfl (by decide) (by decide) (fun w1 H locs hq hP hD hS => ?_)
  obtain ⟨a0_27, rfl⟩ := hq
  have hP : va_P (dC, dI) vwCl [(r, .inr (2, [.ref q5, .null, .null, .null, .int 0, .int 0, .int 0, .int 0])), (q5, .inr (1, [.ref a0_10])), (a0_10, .inl (cI, z, .inl (fun _ => 0))), (q17, .inr (1, [.ref a0_27])), (a0_27, .inl (cI, ((z / 9) + 1), .inl (fun _ => 0)))] H := hP
  have hD : va_D A [(r, .inr (2, [.ref q5, .null, .null, .null, .int 0, .int 0, .int 0, .int 0])), (q5, .inr (1, [.ref a0_10])), (a0_10, .inl (cI, z, .inl (fun _ => 0))), (q17, .inr (1, [.ref a0_27])), (a0_27, .inl (cI, ((z / 9) + 1), .inl (fun _ => 0)))] := hD
  refine va_putF (D := (dC, dI)) (ci := 2) (v := .ref q17) (ty := .object "StockLog$Cells") (C := RX1) (T := TX1) (N := 8) hx hb hts inX1 tyX1 tyX1_ok nmX1 hown hK.1 hP hD hS 0 rfl rfl 1 (by decide) fl20 (fun _ h9 => h9) rfl hin rfl (by decide +kernel) rfl rfl (Nat.le_of_ble_eq_true rfl) dX1_init_30 (fun H locs hP hD hS => ?_)
  have hP : va_P (dC, dI) vwCl [(r, .inr (2, [.ref q5, .ref q17, .null, .null, .int 0, .int 0, .int 0, .int 0])), (q5, .inr (1, [.ref a0_10])), (a0_10, .inl (cI, z, .inl (fun _ => 0))), (q17, .inr (1, [.ref a0_27])), (a0_27, .inl (cI, ((z / 9) + 1), .inl (fun _ => 0)))] H := hP
  have hD : va_D A [(r, .inr (2, [.ref q5, .ref q17, .null, .null, .int 0, .int 0, .int 0, .int 0])), (q5, .inr (1, [.ref a0_10])), (a0_10, .inl (cI, z, .inl (fun _ => 0))), (q17, .inr (1, [.ref a0_27])), (a0_27, .inl (cI, ((z / 9) + 1), .inl (fun _ => 0)))] := hD
  refine lv_aload_n hx hb dX1_init_33 rfl (lv_at hl 0 rfl) ?_
  refine va_new (D := (dC, dI)) (ci := 1) (fs := [.null]) (C := RX0) (T := TX0) (N := 1) hx hb hts inX0 tyX0 tyX0_ok hown (hts (.classLink RX1 9 RX0) (by decide +kernel)) (hts (.instantiable RX0 1) (by decide +kernel)) (hts (.initialized RX0) (by decide +kernel)) hK.1 hP hD hS hA rfl (fun j hj => by rcases (show j = 0 by omega) with rfl <;> rfl) (Nat.le_of_ble_eq_true rfl) (Nat.le_of_ble_eq_true rfl) dX1_init_34 (fun q34 H hP hD hS => ?_)
  have hP : va_P (dC, dI) vwCl [(r, .inr (2, [.ref q5, .ref q17, .null, .null, .int 0, .int 0, .int 0, .int 0])), (q5, .inr (1, [.ref a0_10])), (a0_10, .inl (cI, z, .inl (fun _ => 0))), (q17, .inr (1, [.ref a0_27])), (a0_27, .inl (cI, ((z / 9) + 1), .inl (fun _ => 0))), (q34, .inr (1, [.null]))] H := hP
  have hD : va_D A [(r, .inr (2, [.ref q5, .ref q17, .null, .null, .int 0, .int 0, .int 0, .int 0])), (q5, .inr (1, [.ref a0_10])), (a0_10, .inl (cI, z, .inl (fun _ => 0))), (q17, .inr (1, [.ref a0_27])), (a0_27, .inl (cI, ((z / 9) + 1), .inl (fun _ => 0))), (q34, .inr (1, [.null]))] := hD
  refine lv_dup hx hb dX1_init_37 rfl ?_
  refine lv_bipush (v := 6) hx hb dX1_init_38 (by decide) ?_
  refine k_afC (wr := [(r, .inr (2, [.ref q5, .ref q17, .null, .null, .int 0, .int 0, .int 0, .int 0])), (q5, .inr (1, [.ref a0_10])), (a0_10, .inl (cI, z, .inl (fun _ => 0))), (q17, .inr (1, [.ref a0_27])), (a0_27, .inl (cI, ((z / 9) + 1), .inl (fun _ => 0)))]) (va_runI (rest := [.ref q34, .ref r]) ⟨hx, hb, hml, hown, hts⟩ (m_X0_init l dC dI cI cJ q34 6 H.size (by omega)) (cwI 1 hts gX1_init_X0_init rfl rfl rfl (hts (.initialized RX0) (by decide +kernel)) (hts (.methodLink RX1 11 yX0_init) (by decide +kernel)) (hts (.instanceMethod yX0_init) (by decide +kernel)) rfl hdn_X0_init ⟨Nat.le_of_ble_eq_true rfl, Nat.le_of_ble_eq_true rfl⟩) (k_preC hK hP hD [5] rfl rfl) rfl rfl hl.1 rfl (lv_room (Nat.le_of_ble_eq_true rfl)) dX1_init_40 ⟨Nat.le_of_ble_eq_true rfl, Nat.le_of_ble_eq_true rfl⟩) hP hD hS hA [5] [0, 1, 2, 3, 4] rfl rfl (by decide) (by decide) (fun w1 H locs hq hP hD hS => ?_)
  obtain ⟨a0_40, rfl⟩ := hq
  have hP : va_P (dC, dI) vwCl [(r, .inr (2, [.ref q5, .ref q17, .null, .null, .int 0, .int 0, .int 0, .int 0])), (q5, .inr (1, [.ref a0_10])), (a0_10, .inl (cI, z, .inl (fun _ => 0))), (q17, .inr (1, [.ref a0_27])), (a0_27, .inl (cI, ((z / 9) + 1), .inl (fun _ => 0))), (q34, .inr (1, [.ref a0_40])), (a0_40, .inl (cI, 6, .inl (fun _ => 0)))] H := hP
  have hD : va_D A [(r, .inr (2, [.ref q5, .ref q17, .null, .null, .int 0, .int 0, .int 0, .int 0])), (q5, .inr (1, [.ref a0_10])), (a0_10, .inl (cI, z, .inl (fun _ => 0))), (q17, .inr (1, [.ref a0_27])), (a0_27, .inl (cI, ((z / 9) + 1), .inl (fun _ => 0))), (q34, .inr (1, [.ref a0_40])), (a0_40, .inl (cI, 6, .inl (fun _ => 0)))] := hD
  refine va_putF (D := (dC, dI)) (ci := 2) (v := .ref q34) (ty := .object "StockLog$Cells") (C := RX1) (T := TX1) (N := 8) hx hb hts inX1 tyX1 tyX1_ok nmX1 hown hK.1 hP hD hS 0 rfl rfl 2 (by decide) fl23 (fun _ h9 => h9) rfl hin rfl (by decide +kernel) rfl rfl (Nat.le_of_ble_eq_true rfl) dX1_init_43 (fun H locs hP hD hS => ?_)
  have hP : va_P (dC, dI) vwCl [(r, .inr (2, [.ref q5, .ref q17, .ref q34, .null, .int 0, .int 0, .int 0, .int 0])), (q5, .inr (1, [.ref a0_10])), (a0_10, .inl (cI, z, .inl (fun _ => 0))), (q17, .inr (1, [.ref a0_27])), (a0_27, .inl (cI, ((z / 9) + 1), .inl (fun _ => 0))), (q34, .inr (1, [.ref a0_40])), (a0_40, .inl (cI, 6, .inl (fun _ => 0)))] H := hP
  have hD : va_D A [(r, .inr (2, [.ref q5, .ref q17, .ref q34, .null, .int 0, .int 0, .int 0, .int 0])), (q5, .inr (1, [.ref a0_10])), (a0_10, .inl (cI, z, .inl (fun _ => 0))), (q17, .inr (1, [.ref a0_27])), (a0_27, .inl (cI, ((z / 9) + 1), .inl (fun _ => 0))), (q34, .inr (1, [.ref a0_40])), (a0_40, .inl (cI, 6, .inl (fun _ => 0)))] := hD
  refine lv_aload_n hx hb dX1_init_46 rfl (lv_at hl 0 rfl) ?_
  refine va_new (D := (dC, dI)) (ci := 1) (fs := [.null]) (C := RX0) (T := TX0) (N := 1) hx hb hts inX0 tyX0 tyX0_ok hown (hts (.classLink RX1 9 RX0) (by decide +kernel)) (hts (.instantiable RX0 1) (by decide +kernel)) (hts (.initialized RX0) (by decide +kernel)) hK.1 hP hD hS hA rfl (fun j hj => by rcases (show j = 0 by omega) with rfl <;> rfl) (Nat.le_of_ble_eq_true rfl) (Nat.le_of_ble_eq_true rfl) dX1_init_47 (fun q47 H hP hD hS => ?_)
  have hP : va_P (dC, dI) vwCl [(r, .inr (2, [.ref q5, .ref q17, .ref q34, .null, .int 0, .int 0, .int 0, .int 0])), (q5, .inr (1, [.ref a0_10])), (a0_10, .inl (cI, z, .inl (fun _ => 0))), (q17, .inr (1, [.ref a0_27])), (a0_27, .inl (cI, ((z / 9) + 1), .inl (fun _ => 0))), (q34, .inr (1, [.ref a0_40])), (a0_40, .inl (cI, 6, .inl (fun _ => 0))), (q47, .inr (1, [.null]))] H := hP
  have hD : va_D A [(r, .inr (2, [.ref q5, .ref q17, .ref q34, .null, .int 0, .int 0, .int 0, .int 0])), (q5, .inr (1, [.ref a0_10])), (a0_10, .inl (cI, z, .inl (fun _ => 0))), (q17, .inr (1, [.ref a0_27])), (a0_27, .inl (cI, ((z / 9) + 1), .inl (fun _ => 0))), (q34, .inr (1, [.ref a0_40])), (a0_40, .inl (cI, 6, .inl (fun _ => 0))), (q47, .inr (1, [.null]))] := hD
  refine lv_dup hx hb dX1_init_50 rfl ?_
  refine lv_bipush (v := 8) hx hb dX1_init_51 (by decide) ?_
  refine k_afC (wr := [(r, .inr (2, [.ref q5, .ref q17, .ref q34, .null, .int 0, .int 0, .int 0, .int 0])), (q5, .inr (1, [.ref a0_10])), (a0_10, .inl (cI, z, .inl (fun _ => 0))), (q17, .inr (1, [.ref a0_27])), (a0_27, .inl (cI, ((z / 9) + 1), .inl (fun _ => 0))), (q34, .inr (1, [.ref a0_40])), (a0_40, .inl (cI, 6, .inl (fun _ => 0)))]) (va_runI (rest := [.ref q47, .ref r]) ⟨hx, hb, hml, hown, hts⟩ (m_X0_init l dC dI cI cJ q47 8 H.size (by omega)) (cwI 1 hts gX1_init_X0_init rfl rfl rfl (hts (.initialized RX0) (by decide +kernel)) (hts (.methodLink RX1 11 yX0_init) (by decide +kernel)) (hts (.instanceMethod yX0_init) (by decide +kernel)) rfl hdn_X0_init ⟨Nat.le_of_ble_eq_true rfl, Nat.le_of_ble_eq_true rfl⟩) (k_preC hK hP hD [7] rfl rfl) rfl rfl hl.1 rfl (lv_room (Nat.le_of_ble_eq_true rfl)) dX1_init_53 ⟨Nat.le_of_ble_eq_true rfl, Nat.le_of_ble_eq_true rfl⟩) hP hD hS hA [7] [0, 1, 2, 3, 4, 5, 6] rfl rfl (by decide) (by decide) (fun w1 H locs hq hP hD hS => ?_)
  obtain ⟨a0_53, rfl⟩ := hq
  have hP : va_P (dC, dI) vwCl [(r, .inr (2, [.ref q5, .ref q17, .ref q34, .null, .int 0, .int 0, .int 0, .int 0])), (q5, .inr (1, [.ref a0_10])), (a0_10, .inl (cI, z, .inl (fun _ => 0))), (q17, .inr (1, [.ref a0_27])), (a0_27, .inl (cI, ((z / 9) + 1), .inl (fun _ => 0))), (q34, .inr (1, [.ref a0_40])), (a0_40, .inl (cI, 6, .inl (fun _ => 0))), (q47, .inr (1, [.ref a0_53])), (a0_53, .inl (cI, 8, .inl (fun _ => 0)))] H := hP
  have hD : va_D A [(r, .inr (2, [.ref q5, .ref q17, .ref q34, .null, .int 0, .int 0, .int 0, .int 0])), (q5, .inr (1, [.ref a0_10])), (a0_10, .inl (cI, z, .inl (fun _ => 0))), (q17, .inr (1, [.ref a0_27])), (a0_27, .inl (cI, ((z / 9) + 1), .inl (fun _ => 0))), (q34, .inr (1, [.ref a0_40])), (a0_40, .inl (cI, 6, .inl (fun _ => 0))), (q47, .inr (1, [.ref a0_53])), (a0_53, .inl (cI, 8, .inl (fun _ => 0)))] := hD
  refine va_putF (D := (dC, dI)) (ci := 2) (v := .ref q47) (ty := .object "StockLog$Cells") (C := RX1) (T := TX1) (N := 8) hx hb hts inX1 tyX1 tyX1_ok nmX1 hown hK.1 hP hD hS 0 rfl rfl 3 (by decide) fl26 (fun _ h9 => h9) rfl hin rfl (by decide +kernel) rfl rfl (Nat.le_of_ble_eq_true rfl) dX1_init_56 (fun H locs hP hD hS => ?_)
  have hP : va_P (dC, dI) vwCl [(r, .inr (2, [.ref q5, .ref q17, .ref q34, .ref q47, .int 0, .int 0, .int 0, .int 0])), (q5, .inr (1, [.ref a0_10])), (a0_10, .inl (cI, z, .inl (fun _ => 0))), (q17, .inr (1, [.ref a0_27])), (a0_27, .inl (cI, ((z / 9) + 1), .inl (fun _ => 0))), (q34, .inr (1, [.ref a0_40])), (a0_40, .inl (cI, 6, .inl (fun _ => 0))), (q47, .inr (1, [.ref a0_53])), (a0_53, .inl (cI, 8, .inl (fun _ => 0)))] H := hP
  have hD : va_D A [(r, .inr (2, [.ref q5, .ref q17, .ref q34, .ref q47, .int 0, .int 0, .int 0, .int 0])), (q5, .inr (1, [.ref a0_10])), (a0_10, .inl (cI, z, .inl (fun _ => 0))), (q17, .inr (1, [.ref a0_27])), (a0_27, .inl (cI, ((z / 9) + 1), .inl (fun _ => 0))), (q34, .inr (1, [.ref a0_40])), (a0_40, .inl (cI, 6, .inl (fun _ => 0))), (q47, .inr (1, [.ref a0_53])), (a0_53, .inl (cI, 8, .inl (fun _ => 0)))] := hD
  have hP9 := hP.sub (ws' := [(r, .inr (2, [.ref q5, .ref q17, .ref q34, .ref q47, .int 0, .int 0, .int 0, .int 0])), (q5, .inr (1, [.ref a0_10])), (a0_10, .inl (cI, z, .inl (fun _ => 0))), (q17, .inr (1, [.ref a0_27])), (a0_27, .inl (cI, ((z / 9) + 1), .inl (fun _ => 0))), (q34, .inr (1, [.ref a0_40])), (a0_40, .inl (cI, 6, .inl (fun _ => 0))), (q47, .inr (1, [.ref a0_53])), (a0_53, .inl (cI, 8, .inl (fun _ => 0)))]) [0, 1, 2, 3, 4, 5, 6, 7, 8] rfl
  have hD9 := hD.sub (ws' := [(r, .inr (2, [.ref q5, .ref q17, .ref q34, .ref q47, .int 0, .int 0, .int 0, .int 0])), (q5, .inr (1, [.ref a0_10])), (a0_10, .inl (cI, z, .inl (fun _ => 0))), (q17, .inr (1, [.ref a0_27])), (a0_27, .inl (cI, ((z / 9) + 1), .inl (fun _ => 0))), (q34, .inr (1, [.ref a0_40])), (a0_40, .inl (cI, 6, .inl (fun _ => 0))), (q47, .inr (1, [.ref a0_53])), (a0_53, .inl (cI, 8, .inl (fun _ => 0)))]) [0, 1, 2, 3, 4, 5, 6, 7, 8] (by decide) rfl
  refine W.widen (k := 8) (n := 8196) (Nat.le_of_ble_eq_true rfl) (Nat.le_of_ble_eq_true rfl) ?_
  exact W.vret hx hb hr (fun t ht hW => ⟨rfl, ⟨_, ⟨q5, a0_10, q17, a0_27, q34, a0_40, q47, a0_53, rfl⟩, by rw [ht]; exact hP9, by rw [hAe]; exact hD9⟩, by rw [hAe]; exact hS.F ht⟩) hS.2.2 dX1_init_59
set_option maxHeartbeats 4000000 in
set_option maxRecDepth 100000 in
theorem m_X2_init (l : Launch) (dC : Nat → ClassId) (dI : Nat → Nat → Nat) (cI cJ : ClassId) (o : Nat) (sec : Int32) (n : Nat) (sz : Nat) (hn : n ≤ 64) (hsec : mmax 1 (mmin 64 sec) = nI n) : cC l yX2_init wsX2_init ({ frames := 3, cells := 15, slots := 14351, locals := 56 }) dC dI cI cJ [(o, .inr (3, [.int 0, .null, .null, .null, .null, .int 0, .int 0, .int 0, .int 0]))] sz [.ref o, .int sec] (fun w1 => ∃ qd ad qe ae qo ao r qi ai qs aS qk ak qt aT : Nat, w1 = [(o, .inr (3, [.int (nI n), .ref qd, .ref qe, .ref qo, .ref r, .int 0, .int 0, .int 1, .int 0])), (qd, .inr (1, [.ref ad])), (ad, .inl (cI, (n * 32), .inl (fun _ => 0))), (qe, .inr (1, [.ref ae])), (ae, .inl (cI, (n * 32), .inl (fun _ => 0))), (qo, .inr (1, [.ref ao])), (ao, .inl (cI, 20, .inl (fun _ => 0))), (r, .inr (2, [.ref qi, .ref qs, .ref qk, .ref qt, .int (nI 0), .int (nI 0), .int (nI 0), .int (nI 0)])), (qi, .inr (1, [.ref ai])), (ai, .inl (cI, (n * 32), .inl (fun _ => 0))), (qs, .inr (1, [.ref aS])), (aS, .inl (cI, ((n * 32) / 9 + 1), .inl (fun _ => 0))), (qk, .inr (1, [.ref ak])), (ak, .inl (cI, 6, .inl (fun _ => 0))), (qt, .inr (1, [.ref aT])), (aT, .inl (cI, 8, .inl (fun _ => 0)))]) 15 14351 := by
  refine Met.ofW (cc := cX2_init) (maxL := 3) (ret := none) (by decide) rfl ?_
  intro p e s m args below meth c s₁ B hml hv
  obtain ⟨rfl, hsz, hP, hK, hD0⟩ := hv
  have hx := B.exec
  have hb := B.bytes
  have hr := B.returns
  have hts := atoms_spec (ws := wsX2_init) B.pre
  have hown : s.vm.findClass RX2 = some m.cls := findClass_of_methodNamed B.named
  have hlocks := B.notSynchronized
  have hin : meth.name = "<init>" := (name_of_methodNamed B.named B.method).1
  subst hsz
  have inX0 : ∀ w ∈ wsX00, w ∈ wsX2_init := fun w h => (List.mem_cons_of_mem _ (List.mem_append_left _ (List.mem_append_right _ h)))
  have inX1 : ∀ w ∈ wsX10, w ∈ wsX2_init := fun w h => (List.mem_cons_of_mem _ (List.mem_append_right _ h))
  have inX2 : ∀ w ∈ wsX20, w ∈ wsX2_init := fun w h => (List.mem_cons_of_mem _ (List.mem_append_left _ (List.mem_append_left _ (List.mem_append_right _ h))))
  have fl18 := hts (.fieldLink RX2 18 "StockLog" "sectors" "I") (by decide +kernel)
  have fl27 := hts (.fieldLink RX2 27 "StockLog" "disk" "LStockLog$Cells;") (by decide +kernel)
  have fl31 := hts (.fieldLink RX2 31 "StockLog" "kept" "LStockLog$Cells;") (by decide +kernel)
  have fl34 := hts (.fieldLink RX2 34 "StockLog" "told" "LStockLog$Cells;") (by decide +kernel)
  have fl40 := hts (.fieldLink RX2 40 "StockLog" "rows" "LStockLog$Rows;") (by decide +kernel)
  have fl44 := hts (.fieldLink RX2 44 "StockLog" "foundBehind" "I") (by decide +kernel)
  have fl47 := hts (.fieldLink RX2 47 "StockLog" "up" "Z") (by decide +kernel)
  have hD := hD0.self (sz := s.heap.size)
  generalize hAe : va_A [(o, .inr (3, [.int 0, .null, .null, .null, .null, .int 0, .int 0, .int 0, .int 0]))] s.heap.size = A at hD ⊢
  have hA : ∀ q : Nat, s.heap.size ≤ q → A q := fun q h => by rw [← hAe]; exact Or.inr h
  have hS : va_S A s.heap s.heap [] := va_S.rf
  have hP : va_P (dC, dI) vwCl [(o, .inr (3, [.int 0, .null, .null, .null, .null, .int 0, .int 0, .int 0, .int 0]))] s.heap := hP
  have hl := lv_entry ([.ref o, .int sec]) (n := 3) (Nat.le_of_ble_eq_true rfl)
  rw [lg_entry_eq]
  generalize (lg_sl ([.ref o, .int sec]) ++ List.replicate (3 - (lg_sl ([.ref o, .int sec])).length) Slot.unset).toArray = ls at hl ⊢
  have hl : lv_has ls 3 [(0, .ref o), (1, .int sec)] := hl
  refine lv_aload_n hx hb dX2_init_0 rfl (lv_at hl 0 rfl) ?_
  refine W.objInit hx hb hown (hts (.methodLink RX2 3 objectInit) (by decide +kernel)) (hts (.instanceMethod objectInit) (by decide +kernel)) (hts (.code objectInit ⟨#[0xb1]⟩ 1 none) (by decide +kernel)) rfl (by rw [hml]; exact hl.1) rfl dX2_init_1 (Nat.le_of_ble_eq_true rfl) (Nat.le_of_ble_eq_true rfl) ?_
  refine W.eq (g2 := F0 m 4 ls []) rfl ?_
  refine lv_aload_n hx hb dX2_init_4 rfl (lv_at hl 0 rfl) ?_
  refine lv_iconst (v := 1) hx hb dX2_init_5 (by decide) ?_
  refine lv_bipush (v := 64) hx hb dX2_init_6 (by decide) ?_
  refine lv_iload_n hx hb dX2_init_8 rfl (lv_at hl 1 rfl) ?_
  refine va_mmin hx hb (hml.trans hl.1.symm) hown (hts (.methodLink RX2 9 Lib.Math.min.name) (by decide +kernel)) (hts (.static Lib.Math.min.name) (by decide +kernel)) (hts (.initialized "java/lang/Math") (by decide +kernel)) (hts (.code Lib.Math.min.name Lib.Math.min.code 2 (some .int)) (by decide +kernel)) (Nat.le_of_ble_eq_true rfl) (Nat.le_of_ble_eq_true rfl) (Nat.le_of_ble_eq_true rfl) (Nat.le_of_ble_eq_true rfl) dX2_init_9 ?_
  refine va_mmax hx hb (hml.trans hl.1.symm) hown (hts (.methodLink RX2 15 Lib.Math.max.name) (by decide +kernel)) (hts (.static Lib.Math.max.name) (by decide +kernel)) (hts (.initialized "java/lang/Math") (by decide +kernel)) (hts (.code Lib.Math.max.name Lib.Math.max.code 2 (some .int)) (by decide +kernel)) (Nat.le_of_ble_eq_true rfl) (Nat.le_of_ble_eq_true rfl) (Nat.le_of_ble_eq_true rfl) (Nat.le_of_ble_eq_true rfl) dX2_init_12 ?_
  refine k_nrm (y := nI n) hsec ?_
  refine va_putF (D := (dC, dI)) (ci := 3) (v := .int (nI n)) (ty := .int) (C := RX2) (T := TX2) (N := 9) hx hb hts inX2 tyX2 tyX2_ok nmX2 hown hK.1 hP hD hS 0 rfl rfl 0 (by decide) fl18 (fun _ h9 => h9) rfl hin rfl (by decide +kernel) rfl rfl (Nat.le_of_ble_eq_true rfl) dX2_init_15 (fun H locs hP hD hS => ?_)
  have hP : va_P (dC, dI) vwCl [(o, .inr (3, [.int (nI n), .null, .null, .null, .null, .int 0, .int 0, .int 0, .int 0]))] H := hP
  have hD : va_D A [(o, .inr (3, [.int (nI n), .null, .null, .null, .null, .int 0, .int 0, .int 0, .int 0]))] := hD
  refine lv_aload_n hx hb dX2_init_18 rfl (lv_at hl 0 rfl) ?_
  refine k_get (ci := 3) (T := TX2) (N := 9) (C := RX2) hx hb hts inX2 hown hK hP 0 rfl rfl 0 (by decide) fl18 rfl rfl dX2_init_19 ?_
  refine lv_bipush (v := 32) hx hb dX2_init_22 (by decide) ?_
  refine lv_imul hx hb dX2_init_24 ?_
  refine k_nrm (y := nI (n * 32)) (pk_mul n 32) ?_
  refine lv_istore_n (lv' := [(2, .int (nI (n * 32))), (0, .ref o), (1, .int sec)]) hx hb dX2_init_25 rfl hl (by decide) rfl (fun ls hl => ?_)
  refine lv_aload_n hx hb dX2_init_26 rfl (lv_at hl 1 rfl) ?_
  refine va_new (D := (dC, dI)) (ci := 1) (fs := [.null]) (C := RX0) (T := TX0) (N := 1) hx hb hts inX0 tyX0 tyX0_ok hown (hts (.classLink RX2 22 RX0) (by decide +kernel)) (hts (.instantiable RX0 1) (by decide +kernel)) (hts (.initialized RX0) (by decide +kernel)) hK.1 hP hD hS hA rfl (fun j hj => by rcases (show j = 0 by omega) with rfl <;> rfl) (Nat.le_of_ble_eq_true rfl) (Nat.le_of_ble_eq_true rfl) dX2_init_27 (fun q27 H hP hD hS => ?_)
  have hP : va_P (dC, dI) vwCl [(o, .inr (3, [.int (nI n), .null, .null, .null, .null, .int 0, .int 0, .int 0, .int 0])), (q27, .inr (1, [.null]))] H := hP
  have hD : va_D A [(o, .inr (3, [.int (nI n), .null, .null, .null, .null, .int 0, .int 0, .int 0, .int 0])), (q27, .inr (1, [.null]))] := hD
  refine lv_dup hx hb dX2_init_30 rfl ?_
  refine lv_iload_n hx hb dX2_init_31 rfl (lv_at hl 0 rfl) ?_
  refine k_afC (wr := [(o, .inr (3, [.int (nI n), .null, .null, .null, .null, .int 0, .int 0, .int 0, .int 0]))]) (va_runI (rest := [.ref q27, .ref o]) ⟨hx, hb, hml, hown, hts⟩ (m_X0_init l dC dI cI cJ q27 (n * 32) H.size (by omega)) (cwI 1 hts gX2_init_X0_init rfl rfl rfl (hts (.initialized RX0) (by decide +kernel)) (hts (.methodLink RX2 24 yX0_init) (by decide +kernel)) (hts (.instanceMethod yX0_init) (by decide +kernel)) rfl hdn_X0_init ⟨Nat.le_of_ble_eq_true rfl, Nat.le_of_ble_eq_true rfl⟩) (k_preC hK hP hD [1] rfl rfl) rfl rfl hl.1 rfl (lv_room (Nat.le_of_ble_eq_true rfl)) dX2_init_32 ⟨Nat.le_of_ble_eq_true rfl, Nat.le_of_ble_eq_true rfl⟩) hP hD hS hA [1] [0] rfl rfl (by decide) (by decide) (fun w1 H locs hq hP hD hS => ?_)
  obtain ⟨a0_32, rfl⟩ := hq
  have hP : va_P (dC, dI) vwCl [(o, .inr (3, [.int (nI n), .null, .null, .null, .null, .int 0, .int 0, .int 0, .int 0])), (q27, .inr (1, [.ref a0_32])), (a0_32, .inl (cI, (n * 32), .inl (fun _ => 0)))] H := hP
  have hD : va_D A [(o, .inr (3, [.int (nI n), .null, .null, .null, .null, .int 0, .int 0, .int 0, .int 0])), (q27, .inr (1, [.ref a0_32])), (a0_32, .inl (cI, (n * 32), .inl (fun _ => 0)))] := hD
  refine va_putF (D := (dC, dI)) (ci := 3) (v := .ref q27) (ty := .object "StockLog$Cells") (C := RX2) (T := TX2) (N := 9) hx hb hts inX2 tyX2 tyX2_ok nmX2 hown hK.1 hP hD hS 0 rfl rfl 1 (by decide) fl27 (fun _ h9 => h9) rfl hin rfl (by decide +kernel) rfl rfl (Nat.le_of_ble_eq_true rfl) dX2_init_35 (fun H locs hP hD hS => ?_)
  have hP : va_P (dC, dI) vwCl [(o, .inr (3, [.int (nI n), .ref q27, .null, .null, .null, .int 0, .int 0, .int 0, .int 0])), (q27, .inr (1, [.ref a0_32])), (a0_32, .inl (cI, (n * 32), .inl (fun _ => 0)))] H := hP
  have hD : va_D A [(o, .inr (3, [.int (nI n), .ref q27, .null, .null, .null, .int 0, .int 0, .int 0, .int 0])), (q27, .inr (1, [.ref a0_32])), (a0_32, .inl (cI, (n * 32), .inl (fun _ => 0)))] := hD
  refine lv_aload_n hx hb dX2_init_38 rfl (lv_at hl 1 rfl) ?_
  refine va_new (D := (dC, dI)) (ci := 1) (fs := [.null]) (C := RX0) (T := TX0) (N := 1) hx hb hts inX0 tyX0 tyX0_ok hown (hts (.classLink RX2 22 RX0) (by decide +kernel)) (hts (.instantiable RX0 1) (by decide +kernel)) (hts (.initialized RX0) (by decide +kernel)) hK.1 hP hD hS hA rfl (fun j hj => by rcases (show j = 0 by omega) with rfl <;> rfl) (Nat.le_of_ble_eq_true rfl) (Nat.le_of_ble_eq_true rfl) dX2_init_39 (fun q39 H hP hD hS => ?_)
  have hP : va_P (dC, dI) vwCl [(o, .inr (3, [.int (nI n), .ref q27, .null, .null, .null, .int 0, .int 0, .int 0, .int 0])), (q27, .inr (1, [.ref a0_32])), (a0_32, .inl (cI, (n * 32), .inl (fun _ => 0))), (q39, .inr (1, [.null]))] H := hP
  have hD : va_D A [(o, .inr (3, [.int (nI n), .ref q27, .null, .null, .null, .int 0, .int 0, .int 0, .int 0])), (q27, .inr (1, [.ref a0_32])), (a0_32, .inl (cI, (n * 32), .inl (fun _ => 0))), (q39, .inr (1, [.null]))] := hD
  refine lv_dup hx hb dX2_init_42 rfl ?_
  refine lv_iload_n hx hb dX2_init_43 rfl (lv_at hl 0 rfl) ?_
  refine k_afC (wr := [(o, .inr (3, [.int (nI n), .ref q27, .null, .null, .null, .int 0, .int 0, .int 0, .int 0])), (q27, .inr (1, [.ref a0_32])), (a0_32, .inl (cI, (n * 32), .inl (fun _ => 0)))]) (va_runI (rest := [.ref q39, .ref o]) ⟨hx, hb, hml, hown, hts⟩ (m_X0_init l dC dI cI cJ q39 (n * 32) H.size (by omega)) (cwI 1 hts gX2_init_X0_init rfl rfl rfl (hts (.initialized RX0) (by decide +kernel)) (hts (.methodLink RX2 24 yX0_init) (by decide +kernel)) (hts (.instanceMethod yX0_init) (by decide +kernel)) rfl hdn_X0_init ⟨Nat.le_of_ble_eq_true rfl, Nat.le_of_ble_eq_true rfl⟩) (k_preC hK hP hD [3] rfl rfl) rfl rfl hl.1 rfl (lv_room (Nat.le_of_ble_eq_true rfl)) dX2_init_44 ⟨Nat.le_of_ble_eq_true rfl, Nat.le_of_ble_eq_true rfl⟩) hP hD hS hA [3] [0, 1, 2] rfl rfl (by decide) (by decide) (fun w1 H locs hq hP hD hS => ?_)
  obtain ⟨a0_44, rfl⟩ := hq
  have hP : va_P (dC, dI) vwCl [(o, .inr (3, [.int (nI n), .ref q27, .null, .null, .null, .int 0, .int 0, .int 0, .int 0])), (q27, .inr (1, [.ref a0_32])), (a0_32, .inl (cI, (n * 32), .inl (fun _ => 0))), (q39, .inr (1, [.ref a0_44])), (a0_44, .inl (cI, (n * 32), .inl (fun _ => 0)))] H := hP
  have hD : va_D A [(o, .inr (3, [.int (nI n), .ref q27, .null, .null, .null, .int 0, .int 0, .int 0, .int 0])), (q27, .inr (1, [.ref a0_32])), (a0_32, .inl (cI, (n * 32), .inl (fun _ => 0))), (q39, .inr (1, [.ref a0_44])), (a0_44, .inl (cI, (n * 32), .inl (fun _ => 0)))] := hD
  refine va_putF (D := (dC, dI)) (ci := 3) (v := .ref q39) (ty := .object "StockLog$Cells") (C := RX2) (T := TX2) (N := 9) hx hb hts inX2 tyX2 tyX2_ok nmX2 hown hK.1 hP hD hS 0 rfl rfl 2 (by decide) fl31 (fun _ h9 => h9) rfl hin rfl (by decide +kernel) rfl rfl (Nat.le_of_ble_eq_true rfl) dX2_init_47 (fun H locs hP hD hS => ?_)
  have hP : va_P (dC, dI) vwCl [(o, .inr (3, [.int (nI n), .ref q27, .ref q39, .null, .null, .int 0, .int 0, .int 0, .int 0])), (q27, .inr (1, [.ref a0_32])), (a0_32, .inl (cI, (n * 32), .inl (fun _ => 0))), (q39, .inr (1, [.ref a0_44])), (a0_44, .inl (cI, (n * 32), .inl (fun _ => 0)))] H := hP
  have hD : va_D A [(o, .inr (3, [.int (nI n), .ref q27, .ref q39, .null, .null, .int 0, .int 0, .int 0, .int 0])), (q27, .inr (1, [.ref a0_32])), (a0_32, .inl (cI, (n * 32), .inl (fun _ => 0))), (q39, .inr (1, [.ref a0_44])), (a0_44, .inl (cI, (n * 32), .inl (fun _ => 0)))] := hD
  refine lv_aload_n hx hb dX2_init_50 rfl (lv_at hl 1 rfl) ?_
  refine va_new (D := (dC, dI)) (ci := 1) (fs := [.null]) (C := RX0) (T := TX0) (N := 1) hx hb hts inX0 tyX0 tyX0_ok hown (hts (.classLink RX2 22 RX0) (by decide +kernel)) (hts (.instantiable RX0 1) (by decide +kernel)) (hts (.initialized RX0) (by decide +kernel)) hK.1 hP hD hS hA rfl (fun j hj => by rcases (show j = 0 by omega) with rfl <;> rfl) (Nat.le_of_ble_eq_true rfl) (Nat.le_of_ble_eq_true rfl) dX2_init_51 (fun q51 H hP hD hS => ?_)
  have hP : va_P (dC, dI) vwCl [(o, .inr (3, [.int (nI n), .ref q27, .ref q39, .null, .null, .int 0, .int 0, .int 0, .int 0])), (q27, .inr (1, [.ref a0_32])), (a0_32, .inl (cI, (n * 32), .inl (fun _ => 0))), (q39, .inr (1, [.ref a0_44])), (a0_44, .inl (cI, (n * 32), .inl (fun _ => 0))), (q51, .inr (1, [.null]))] H := hP
  have hD : va_D A [(o, .inr (3, [.int (nI n), .ref q27, .ref q39, .null, .null, .int 0, .int 0, .int 0, .int 0])), (q27, .inr (1, [.ref a0_32])), (a0_32, .inl (cI, (n * 32), .inl (fun _ => 0))), (q39, .inr (1, [.ref a0_44])), (a0_44, .inl (cI, (n * 32), .inl (fun _ => 0))), (q51, .inr (1, [.null]))] := hD
  refine lv_dup hx hb dX2_init_54 rfl ?_
  refine lv_bipush (v := 20) hx hb dX2_init_55 (by decide) ?_
  refine k_afC (wr := [(o, .inr (3, [.int (nI n), .ref q27, .ref q39, .null, .null, .int 0, .int 0, .int 0, .int 0])), (q27, .inr (1, [.ref a0_32])), (a0_32, .inl (cI, (n * 32), .inl (fun _ => 0))), (q39, .inr (1, [.ref a0_44])), (a0_44, .inl (cI, (n * 32), .inl (fun _ => 0)))]) (va_runI (rest := [.ref q51, .ref o]) ⟨hx, hb, hml, hown, hts⟩ (m_X0_init l dC dI cI cJ q51 20 H.size (by omega)) (cwI 1 hts gX2_init_X0_init rfl rfl rfl (hts (.initialized RX0) (by decide +kernel)) (hts (.methodLink RX2 24 yX0_init) (by decide +kernel)) (hts (.instanceMethod yX0_init) (by decide +kernel)) rfl hdn_X0_init ⟨Nat.le_of_ble_eq_true rfl, Nat.le_of_ble_eq_true rfl⟩) (k_preC hK hP hD [5] rfl rfl) rfl rfl hl.1 rfl (lv_room (Nat.le_of_ble_eq_true rfl)) dX2_init_57 ⟨Nat.le_of_ble_eq_true rfl, Nat.le_of_ble_eq_true rfl⟩) hP hD hS hA [5] [0, 1, 2, 3, 4] rfl rfl (by decide) (by decide) (fun w1 H locs hq hP hD hS => ?_)
  obtain ⟨a0_57, rfl⟩ := hq
  have hP : va_P (dC, dI) vwCl [(o, .inr (3, [.int (nI n), .ref q27, .ref q39, .null, .null, .int 0, .int 0, .int 0, .int 0])), (q27, .inr (1, [.ref a0_32])), (a0_32, .inl (cI, (n * 32), .inl (fun _ => 0))), (q39, .inr (1, [.ref a0_44])), (a0_44, .inl (cI, (n * 32), .inl (fun _ => 0))), (q51, .inr (1, [.ref a0_57])), (a0_57, .inl (cI, 20, .inl (fun _ => 0)))] H := hP
  have hD : va_D A [(o, .inr (3, [.int (nI n), .ref q27, .ref q39, .null, .null, .int 0, .int 0, .int 0, .int 0])), (q27, .inr (1, [.ref a0_32])), (a0_32, .inl (cI, (n * 32), .inl (fun _ => 0))), (q39, .inr (1, [.ref a0_44])), (a0_44, .inl (cI, (n * 32), .inl (fun _ => 0))), (q51, .inr (1, [.ref a0_57])), (a0_57, .inl (cI, 20, .inl (fun _ => 0)))] := hD
  refine va_putF (D := (dC, dI)) (ci := 3) (v := .ref q51) (ty := .object "StockLog$Cells") (C := RX2) (T := TX2) (N := 9) hx hb hts inX2 tyX2 tyX2_ok nmX2 hown hK.1 hP hD hS 0 rfl rfl 3 (by decide) fl34 (fun _ h9 => h9) rfl hin rfl (by decide +kernel) rfl rfl (Nat.le_of_ble_eq_true rfl) dX2_init_60 (fun H locs hP hD hS => ?_)
  have hP : va_P (dC, dI) vwCl [(o, .inr (3, [.int (nI n), .ref q27, .ref q39, .ref q51, .null, .int 0, .int 0, .int 0, .int 0])), (q27, .inr (1, [.ref a0_32])), (a0_32, .inl (cI, (n * 32), .inl (fun _ => 0))), (q39, .inr (1, [.ref a0_44])), (a0_44, .inl (cI, (n * 32), .inl (fun _ => 0))), (q51, .inr (1, [.ref a0_57])), (a0_57, .inl (cI, 20, .inl (fun _ => 0)))] H := hP
  have hD : va_D A [(o, .inr (3, [.int (nI n), .ref q27, .ref q39, .ref q51, .null, .int 0, .int 0, .int 0, .int 0])), (q27, .inr (1, [.ref a0_32])), (a0_32, .inl (cI, (n * 32), .inl (fun _ => 0))), (q39, .inr (1, [.ref a0_44])), (a0_44, .inl (cI, (n * 32), .inl (fun _ => 0))), (q51, .inr (1, [.ref a0_57])), (a0_57, .inl (cI, 20, .inl (fun _ => 0)))] := hD
  refine lv_aload_n hx hb dX2_init_63 rfl (lv_at hl 1 rfl) ?_
  refine va_new (D := (dC, dI)) (ci := 2) (fs := [.null, .null, .null, .null, .int 0, .int 0, .int 0, .int 0]) (C := RX1) (T := TX1) (N := 8) hx hb hts inX1 tyX1 tyX1_ok hown (hts (.classLink RX2 37 RX1) (by decide +kernel)) (hts (.instantiable RX1 8) (by decide +kernel)) (hts (.initialized RX1) (by decide +kernel)) hK.1 hP hD hS hA rfl (fun j hj => by rcases (show j = 0 ∨ j = 1 ∨ j = 2 ∨ j = 3 ∨ j = 4 ∨ j = 5 ∨ j = 6 ∨ j = 7 by omega) with rfl | rfl | rfl | rfl | rfl | rfl | rfl | rfl <;> rfl) (Nat.le_of_ble_eq_true rfl) (Nat.le_of_ble_eq_true rfl) dX2_init_64 (fun q64 H hP hD hS => ?_)
  have hP : va_P (dC, dI) vwCl [(o, .inr (3, [.int (nI n), .ref q27, .ref q39, .ref q51, .null, .int 0, .int 0, .int 0, .int 0])), (q27, .inr (1, [.ref a0_32])), (a0_32, .inl (cI, (n * 32), .inl (fun _ => 0))), (q39, .inr (1, [.ref a0_44])), (a0_44, .inl (cI, (n * 32), .inl (fun _ => 0))), (q51, .inr (1, [.ref a0_57])), (a0_57, .inl (cI, 20, .inl (fun _ => 0))), (q64, .inr (2, [.null, .null, .null, .null, .int 0, .int 0, .int 0, .int 0]))] H := hP
  have hD : va_D A [(o, .inr (3, [.int (nI n), .ref q27, .ref q39, .ref q51, .null, .int 0, .int 0, .int 0, .int 0])), (q27, .inr (1, [.ref a0_32])), (a0_32, .inl (cI, (n * 32), .inl (fun _ => 0))), (q39, .inr (1, [.ref a0_44])), (a0_44, .inl (cI, (n * 32), .inl (fun _ => 0))), (q51, .inr (1, [.ref a0_57])), (a0_57, .inl (cI, 20, .inl (fun _ => 0))), (q64, .inr (2, [.null, .null, .null, .null, .int 0, .int 0, .int 0, .int 0]))] := hD
  refine lv_dup hx hb dX2_init_67 rfl ?_
  refine lv_iload_n hx hb dX2_init_68 rfl (lv_at hl 0 rfl) ?_
  refine k_afC (wr := [(o, .inr (3, [.int (nI n), .ref q27, .ref q39, .ref q51, .null, .int 0, .int 0, .int 0, .int 0])), (q27, .inr (1, [.ref a0_32])), (a0_32, .inl (cI, (n * 32), .inl (fun _ => 0))), (q39, .inr (1, [.ref a0_44])), (a0_44, .inl (cI, (n * 32), .inl (fun _ => 0))), (q51, .inr (1, [.ref a0_57])), (a0_57, .inl (cI, 20, .inl (fun _ => 0)))]) (va_runI (rest := [.ref q64, .ref o]) ⟨hx, hb, hml, hown, hts⟩ (m_X1_init l dC dI cI cJ q64 (n * 32) H.size (by omega)) (cwI 1 hts gX2_init_X1_init rfl rfl rfl (hts (.initialized RX1) (by decide +kernel)) (hts (.methodLink RX2 39 yX1_init) (by decide +kernel)) (hts (.instanceMethod yX1_init) (by decide +kernel)) rfl hdn_X1_init ⟨Nat.le_of_ble_eq_true rfl, Nat.le_of_ble_eq_true rfl⟩) (k_preC hK hP hD [7] rfl rfl) rfl rfl hl.1 rfl (lv_room (Nat.le_of_ble_eq_true rfl)) dX2_init_69 ⟨Nat.le_of_ble_eq_true rfl, Nat.le_of_ble_eq_true rfl⟩) hP hD hS hA [7] [0, 1, 2, 3, 4, 5, 6] rfl rfl (by decide) (by decide) (fun w1 H locs hq hP hD hS => ?_)
  obtain ⟨qi_69, ai_69, qs_69, aS_69, qk_69, ak_69, qt_69, aT_69, rfl⟩ := hq
  have hP : va_P (dC, dI) vwCl [(o, .inr (3, [.int (nI n), .ref q27, .ref q39, .ref q51, .null, .int 0, .int 0, .int 0, .int 0])), (q27, .inr (1, [.ref a0_32])), (a0_32, .inl (cI, (n * 32), .inl (fun _ => 0))), (q39, .inr (1, [.ref a0_44])), (a0_44, .inl (cI, (n * 32), .inl (fun _ => 0))), (q51, .inr (1, [.ref a0_57])), (a0_57, .inl (cI, 20, .inl (fun _ => 0))), (q64, .inr (2, [.ref qi_69, .ref qs_69, .ref qk_69, .ref qt_69, .int (nI 0), .int (nI 0), .int (nI 0), .int (nI 0)])), (qi_69, .inr (1, [.ref ai_69])), (ai_69, .inl (cI, (n * 32), .inl (fun _ => 0))), (qs_69, .inr (1, [.ref aS_69])), (aS_69, .inl (cI, ((n * 32) / 9 + 1), .inl (fun _ => 0))), (qk_69, .inr (1, [.ref ak_69])), (ak_69, .inl (cI, 6, .inl (fun _ => 0))), (qt_69, .inr (1, [.ref aT_69])), (aT_69, .inl (cI, 8, .inl (fun _ => 0)))] H := hP
  have hD : va_D A [(o, .inr (3, [.int (nI n), .ref q27, .ref q39, .ref q51, .null, .int 0, .int 0, .int 0, .int 0])), (q27, .inr (1, [.ref a0_32])), (a0_32, .inl (cI, (n * 32), .inl (fun _ => 0))), (q39, .inr (1, [.ref a0_44])), (a0_44, .inl (cI, (n * 32), .inl (fun _ => 0))), (q51, .inr (1, [.ref a0_57])), (a0_57, .inl (cI, 20, .inl (fun _ => 0))), (q64, .inr (2, [.ref qi_69, .ref qs_69, .ref qk_69, .ref qt_69, .int (nI 0), .int (nI 0), .int (nI 0), .int (nI 0)])), (qi_69, .inr (1, [.ref ai_69])), (ai_69, .inl (cI, (n * 32), .inl (fun _ => 0))), (qs_69, .inr (1, [.ref aS_69])), (aS_69, .inl (cI, ((n * 32) / 9 + 1), .inl (fun _ => 0))), (qk_69, .inr (1, [.ref ak_69])), (ak_69, .inl (cI, 6, .inl (fun _ => 0))), (qt_69, .inr (1, [.ref aT_69])), (aT_69, .inl (cI, 8, .inl (fun _ => 0)))] := hD
  refine va_putF (D := (dC, dI)) (ci := 3) (v := .ref q64) (ty := .object "StockLog$Rows") (C := RX2) (T := TX2) (N := 9) hx hb hts inX2 tyX2 tyX2_ok nmX2 hown hK.1 hP hD hS 0 rfl rfl 4 (by decide) fl40 (fun _ h9 => h9) rfl hin rfl (by decide +kernel) rfl rfl (Nat.le_of_ble_eq_true rfl) dX2_init_72 (fun H locs hP hD hS => ?_)
  have hP : va_P (dC, dI) vwCl [(o, .inr (3, [.int (nI n), .ref q27, .ref q39, .ref q51, .ref q64, .int 0, .int 0, .int 0, .int 0])), (q27, .inr (1, [.ref a0_32])), (a0_32, .inl (cI, (n * 32), .inl (fun _ => 0))), (q39, .inr (1, [.ref a0_44])), (a0_44, .inl (cI, (n * 32), .inl (fun _ => 0))), (q51, .inr (1, [.ref a0_57])), (a0_57, .inl (cI, 20, .inl (fun _ => 0))), (q64, .inr (2, [.ref qi_69, .ref qs_69, .ref qk_69, .ref qt_69, .int (nI 0), .int (nI 0), .int (nI 0), .int (nI 0)])), (qi_69, .inr (1, [.ref ai_69])), (ai_69, .inl (cI, (n * 32), .inl (fun _ => 0))), (qs_69, .inr (1, [.ref aS_69])), (aS_69, .inl (cI, ((n * 32) / 9 + 1), .inl (fun _ => 0))), (qk_69, .inr (1, [.ref ak_69])), (ak_69, .inl (cI, 6, .inl (fun _ => 0))), (qt_69, .inr (1, [.ref aT_69])), (aT_69, .inl (cI, 8, .inl (fun _ => 0)))] H := hP
  have hD : va_D A [(o, .inr (3, [.int (nI n), .ref q27, .ref q39, .ref q51, .ref q64, .int 0, .int 0, .int 0, .int 0])), (q27, .inr (1, [.ref a0_32])), (a0_32, .inl (cI, (n * 32), .inl (fun _ => 0))), (q39, .inr (1, [.ref a0_44])), (a0_44, .inl (cI, (n * 32), .inl (fun _ => 0))), (q51, .inr (1, [.ref a0_57])), (a0_57, .inl (cI, 20, .inl (fun _ => 0))), (q64, .inr (2, [.ref qi_69, .ref qs_69, .ref qk_69, .ref qt_69, .int (nI 0), .int (nI 0), .int (nI 0), .int (nI 0)])), (qi_69, .inr (1, [.ref ai_69])), (ai_69, .inl (cI, (n * 32), .inl (fun _ => 0))), (qs_69, .inr (1, [.ref aS_69])), (aS_69, .inl (cI, ((n * 32) / 9 + 1), .inl (fun _ => 0))), (qk_69, .inr (1, [.ref ak_69])), (ak_69, .inl (cI, 6, .inl (fun _ => 0))), (qt_69, .inr (1, [.ref aT_69])), (aT_69, .inl (cI, 8, .inl (fun _ => 0)))] := hD
  refine lv_aload_n hx hb dX2_init_75 rfl (lv_at hl 1 rfl) ?_
  refine lv_iconst (v := 0) hx hb dX2_init_76 (by decide) ?_
  refine va_put (D := (dC, dI)) (ci := 3) (v := .int 0) (ty := .int) (C := RX2) (T := TX2) (N := 9) hx hb hts inX2 tyX2 tyX2_ok nmX2 hown hK.1 hP hD hS 0 rfl rfl 6 (by decide) fl44 (fun _ h9 => h9) rfl (by decide +kernel) rfl rfl (Nat.le_of_ble_eq_true rfl) dX2_init_77 (fun H locs hP hD hS => ?_)
  have hP : va_P (dC, dI) vwCl [(o, .inr (3, [.int (nI n), .ref q27, .ref q39, .ref q51, .ref q64, .int 0, .int 0, .int 0, .int 0])), (q27, .inr (1, [.ref a0_32])), (a0_32, .inl (cI, (n * 32), .inl (fun _ => 0))), (q39, .inr (1, [.ref a0_44])), (a0_44, .inl (cI, (n * 32), .inl (fun _ => 0))), (q51, .inr (1, [.ref a0_57])), (a0_57, .inl (cI, 20, .inl (fun _ => 0))), (q64, .inr (2, [.ref qi_69, .ref qs_69, .ref qk_69, .ref qt_69, .int (nI 0), .int (nI 0), .int (nI 0), .int (nI 0)])), (qi_69, .inr (1, [.ref ai_69])), (ai_69, .inl (cI, (n * 32), .inl (fun _ => 0))), (qs_69, .inr (1, [.ref aS_69])), (aS_69, .inl (cI, ((n * 32) / 9 + 1), .inl (fun _ => 0))), (qk_69, .inr (1, [.ref ak_69])), (ak_69, .inl (cI, 6, .inl (fun _ => 0))), (qt_69, .inr (1, [.ref aT_69])), (aT_69, .inl (cI, 8, .inl (fun _ => 0)))] H := hP
  have hD : va_D A [(o, .inr (3, [.int (nI n), .ref q27, .ref q39, .ref q51, .ref q64, .int 0, .int 0, .int 0, .int 0])), (q27, .inr (1, [.ref a0_32])), (a0_32, .inl (cI, (n * 32), .inl (fun _ => 0))), (q39, .inr (1, [.ref a0_44])), (a0_44, .inl (cI, (n * 32), .inl (fun _ => 0))), (q51, .inr (1, [.ref a0_57])), (a0_57, .inl (cI, 20, .inl (fun _ => 0))), (q64, .inr (2, [.ref qi_69, .ref qs_69, .ref qk_69, .ref qt_69, .int (nI 0), .int (nI 0), .int (nI 0), .int (nI 0)])), (qi_69, .inr (1, [.ref ai_69])), (ai_69, .inl (cI, (n * 32), .inl (fun _ => 0))), (qs_69, .inr (1, [.ref aS_69])), (aS_69, .inl (cI, ((n * 32) / 9 + 1), .inl (fun _ => 0))), (qk_69, .inr (1, [.ref ak_69])), (ak_69, .inl (cI, 6, .inl (fun _ => 0))), (qt_69, .inr (1, [.ref aT_69])), (aT_69, .inl (cI, 8, .inl (fun _ => 0)))] := hD
  refine lv_aload_n hx hb dX2_init_80 rfl (lv_at hl 1 rfl) ?_
  refine lv_iconst (v := 1) hx hb dX2_init_81 (by decide) ?_
  refine va_put (D := (dC, dI)) (ci := 3) (v := .int 1) (ty := .boolean) (C := RX2) (T := TX2) (N := 9) hx hb hts inX2 tyX2 tyX2_ok nmX2 hown hK.1 hP hD hS 0 rfl rfl 7 (by decide) fl47 (fun _ h9 => h9) rfl (by decide +kernel) rfl rfl (Nat.le_of_ble_eq_true rfl) dX2_init_82 (fun H locs hP hD hS => ?_)
  have hP : va_P (dC, dI) vwCl [(o, .inr (3, [.int (nI n), .ref q27, .ref q39, .ref q51, .ref q64, .int 0, .int 0, .int 1, .int 0])), (q27, .inr (1, [.ref a0_32])), (a0_32, .inl (cI, (n * 32), .inl (fun _ => 0))), (q39, .inr (1, [.ref a0_44])), (a0_44, .inl (cI, (n * 32), .inl (fun _ => 0))), (q51, .inr (1, [.ref a0_57])), (a0_57, .inl (cI, 20, .inl (fun _ => 0))), (q64, .inr (2, [.ref qi_69, .ref qs_69, .ref qk_69, .ref qt_69, .int (nI 0), .int (nI 0), .int (nI 0), .int (nI 0)])), (qi_69, .inr (1, [.ref ai_69])), (ai_69, .inl (cI, (n * 32), .inl (fun _ => 0))), (qs_69, .inr (1, [.ref aS_69])), (aS_69, .inl (cI, ((n * 32) / 9 + 1), .inl (fun _ => 0))), (qk_69, .inr (1, [.ref ak_69])), (ak_69, .inl (cI, 6, .inl (fun _ => 0))), (qt_69, .inr (1, [.ref aT_69])), (aT_69, .inl (cI, 8, .inl (fun _ => 0)))] H := hP
  have hD : va_D A [(o, .inr (3, [.int (nI n), .ref q27, .ref q39, .ref q51, .ref q64, .int 0, .int 0, .int 1, .int 0])), (q27, .inr (1, [.ref a0_32])), (a0_32, .inl (cI, (n * 32), .inl (fun _ => 0))), (q39, .inr (1, [.ref a0_44])), (a0_44, .inl (cI, (n * 32), .inl (fun _ => 0))), (q51, .inr (1, [.ref a0_57])), (a0_57, .inl (cI, 20, .inl (fun _ => 0))), (q64, .inr (2, [.ref qi_69, .ref qs_69, .ref qk_69, .ref qt_69, .int (nI 0), .int (nI 0), .int (nI 0), .int (nI 0)])), (qi_69, .inr (1, [.ref ai_69])), (ai_69, .inl (cI, (n * 32), .inl (fun _ => 0))), (qs_69, .inr (1, [.ref aS_69])), (aS_69, .inl (cI, ((n * 32) / 9 + 1), .inl (fun _ => 0))), (qk_69, .inr (1, [.ref ak_69])), (ak_69, .inl (cI, 6, .inl (fun _ => 0))), (qt_69, .inr (1, [.ref aT_69])), (aT_69, .inl (cI, 8, .inl (fun _ => 0)))] := hD
  have hP9 := hP.sub (ws' := [(o, .inr (3, [.int (nI n), .ref q27, .ref q39, .ref q51, .ref q64, .int 0, .int 0, .int 1, .int 0])), (q27, .inr (1, [.ref a0_32])), (a0_32, .inl (cI, (n * 32), .inl (fun _ => 0))), (q39, .inr (1, [.ref a0_44])), (a0_44, .inl (cI, (n * 32), .inl (fun _ => 0))), (q51, .inr (1, [.ref a0_57])), (a0_57, .inl (cI, 20, .inl (fun _ => 0))), (q64, .inr (2, [.ref qi_69, .ref qs_69, .ref qk_69, .ref qt_69, .int (nI 0), .int (nI 0), .int (nI 0), .int (nI 0)])), (qi_69, .inr (1, [.ref ai_69])), (ai_69, .inl (cI, (n * 32), .inl (fun _ => 0))), (qs_69, .inr (1, [.ref aS_69])), (aS_69, .inl (cI, ((n * 32) / 9 + 1), .inl (fun _ => 0))), (qk_69, .inr (1, [.ref ak_69])), (ak_69, .inl (cI, 6, .inl (fun _ => 0))), (qt_69, .inr (1, [.ref aT_69])), (aT_69, .inl (cI, 8, .inl (fun _ => 0)))]) [0, 1, 2, 3, 4, 5, 6, 7, 8, 9, 10, 11, 12, 13, 14, 15] rfl
  have hD9 := hD.sub (ws' := [(o, .inr (3, [.int (nI n), .ref q27, .ref q39, .ref q51, .ref q64, .int 0, .int 0, .int 1, .int 0])), (q27, .inr (1, [.ref a0_32])), (a0_32, .inl (cI, (n * 32), .inl (fun _ => 0))), (q39, .inr (1, [.ref a0_44])), (a0_44, .inl (cI, (n * 32), .inl (fun _ => 0))), (q51, .inr (1, [.ref a0_57])), (a0_57, .inl (cI, 20, .inl (fun _ => 0))), (q64, .inr (2, [.ref qi_69, .ref qs_69, .ref qk_69, .ref qt_69, .int (nI 0), .int (nI 0), .int (nI 0), .int (nI 0)])), (qi_69, .inr (1, [.ref ai_69])), (ai_69, .inl (cI, (n * 32), .inl (fun _ => 0))), (qs_69, .inr (1, [.ref aS_69])), (aS_69, .inl (cI, ((n * 32) / 9 + 1), .inl (fun _ => 0))), (qk_69, .inr (1, [.ref ak_69])), (ak_69, .inl (cI, 6, .inl (fun _ => 0))), (qt_69, .inr (1, [.ref aT_69])), (aT_69, .inl (cI, 8, .inl (fun _ => 0)))]) [0, 1, 2, 3, 4, 5, 6, 7, 8, 9, 10, 11, 12, 13, 14, 15] (by decide) rfl
  refine W.widen (k := 15) (n := 14351) (Nat.le_of_ble_eq_true rfl) (Nat.le_of_ble_eq_true rfl) ?_
  exact W.vret hx hb hr (fun t ht hW => ⟨rfl, ⟨_, ⟨q27, a0_32, q39, a0_44, q51, a0_57, q64, qi_69, ai_69, qs_69, aS_69, qk_69, ak_69, qt_69, aT_69, rfl⟩, by rw [ht]; exact hP9, by rw [hAe]; exact hD9⟩, by rw [hAe]; exact hS.F ht⟩) hS.2.2 dX2_init_85
set_option maxHeartbeats 4000000 in
set_option maxRecDepth 100000 in
theorem m_X3_init (l : Launch) (dC : Nat → ClassId) (dI : Nat → Nat → Nat) (cI cJ : ClassId) (h : Nat) (sec : Int32) (n : Nat) (sz : Nat) (hn : n ≤ 64) (hsec : mmax 1 (mmin 64 sec) = nI n) : cC l yX3_init wsX3_init ({ frames := 1, cells := 5, slots := 6436, locals := 12 }) dC dI cI cJ [(h, .inr (4, [.int 0, .null, .null, .int 0, .int 0, .null, .null, .int 0, .int 0, .int 0, .int 0, .null, .int 0]))] sz [.ref h, .int sec] (fun w1 => ∃ d1 s1 i1 b1 t1 : Nat, w1 = [(h, .inr (4, [.int (nI (32 * n)), .ref d1, .ref s1, .int 0, .int 1, .ref i1, .ref b1, .int 0, .int 0, .int 0, .int 0, .ref t1, .int 0])), (d1, .inl (cI, 2048, .inl (fun _ => 0))), (s1, .inl (cI, 2048, .inl (fun _ => 0))), (i1, .inl (cI, 2080, .inl (fun _ => 0))), (b1, .inl (cI, 240, .inl (fun _ => 0))), (t1, .inl (cI, 20, .inl (fun _ => 0)))]) 5 6436 := by
  refine Met.ofW (cc := cX3_init) (maxL := 2) (ret := none) (by decide) rfl ?_
  intro p e s m args below meth c s₁ B hml hv
  obtain ⟨rfl, hsz, hP, hK, hD0⟩ := hv
  have hx := B.exec
  have hb := B.bytes
  have hr := B.returns
  have hts := atoms_spec (ws := wsX3_init) B.pre
  have hown : s.vm.findClass RX3 = some m.cls := findClass_of_methodNamed B.named
  have hlocks := B.notSynchronized
  have hin : meth.name = "<init>" := (name_of_methodNamed B.named B.method).1
  subst hsz
  have inX3 : ∀ w ∈ wsX30, w ∈ wsX3_init := fun w h => (List.mem_cons_of_mem _ (List.mem_append_right _ h))
  have fl7 := hts (.fieldLink RX3 7 "StockLogModel" "disk" "[I") (by decide +kernel)
  have fl13 := hts (.fieldLink RX3 13 "StockLogModel" "saved" "[I") (by decide +kernel)
  have fl16 := hts (.fieldLink RX3 16 "StockLogModel" "up" "Z") (by decide +kernel)
  have fl20 := hts (.fieldLink RX3 20 "StockLogModel" "image" "[I") (by decide +kernel)
  have fl23 := hts (.fieldLink RX3 23 "StockLogModel" "begin" "[I") (by decide +kernel)
  have fl26 := hts (.fieldLink RX3 26 "StockLogModel" "told" "[I") (by decide +kernel)
  have fl29 := hts (.fieldLink RX3 29 "StockLogModel" "size" "I") (by decide +kernel)
  have hD := hD0.self (sz := s.heap.size)
  generalize hAe : va_A [(h, .inr (4, [.int 0, .null, .null, .int 0, .int 0, .null, .null, .int 0, .int 0, .int 0, .int 0, .null, .int 0]))] s.heap.size = A at hD ⊢
  have hA : ∀ q : Nat, s.heap.size ≤ q → A q := fun q h => by rw [← hAe]; exact Or.inr h
  have hS : va_S A s.heap s.heap [] := va_S.rf
  have hP : va_P (dC, dI) vwCl [(h, .inr (4, [.int 0, .null, .null, .int 0, .int 0, .null, .null, .int 0, .int 0, .int 0, .int 0, .null, .int 0]))] s.heap := hP
  have hl := lv_entry ([.ref h, .int sec]) (n := 2) (Nat.le_of_ble_eq_true rfl)
  rw [lg_entry_eq]
  generalize (lg_sl ([.ref h, .int sec]) ++ List.replicate (2 - (lg_sl ([.ref h, .int sec])).length) Slot.unset).toArray = ls at hl ⊢
  have hl : lv_has ls 2 [(0, .ref h), (1, .int sec)] := hl
  refine lv_aload_n hx hb dX3_init_0 rfl (lv_at hl 0 rfl) ?_
  refine W.objInit hx hb hown (hts (.methodLink RX3 1 objectInit) (by decide +kernel)) (hts (.instanceMethod objectInit) (by decide +kernel)) (hts (.code objectInit ⟨#[0xb1]⟩ 1 none) (by decide +kernel)) rfl (by rw [hml]; exact hl.1) rfl dX3_init_1 (Nat.le_of_ble_eq_true rfl) (Nat.le_of_ble_eq_true rfl) ?_
  refine W.eq (g2 := F0 m 4 ls []) rfl ?_
  refine lv_aload_n hx hb dX3_init_4 rfl (lv_at hl 0 rfl) ?_
  refine lv_sipush (v := 2048) hx hb dX3_init_5 (by decide) ?_
  refine k_newa (N := 2048) hx hb (hts (.arrayClass .int) (by decide +kernel)) hK hP hD hS hA (by omega) (Nat.le_of_ble_eq_true rfl) (by show _ ≤ 6436; omega) dX3_init_8 (fun q8 H hP hD hS => ?_)
  have hP : va_P (dC, dI) vwCl [(h, .inr (4, [.int 0, .null, .null, .int 0, .int 0, .null, .null, .int 0, .int 0, .int 0, .int 0, .null, .int 0])), (q8, .inl (cI, 2048, .inl (fun _ => 0)))] H := hP
  have hD : va_D A [(h, .inr (4, [.int 0, .null, .null, .int 0, .int 0, .null, .null, .int 0, .int 0, .int 0, .int 0, .null, .int 0])), (q8, .inl (cI, 2048, .inl (fun _ => 0)))] := hD
  refine W.widen (k := 1) (n := 2048) (Nat.le_of_ble_eq_true rfl) (by show _ ≤ 2048; omega) ?_
  refine va_putF (D := (dC, dI)) (ci := 4) (v := .ref q8) (ty := .array .int) (C := RX3) (T := TX3) (N := 13) hx hb hts inX3 tyX3 tyX3_ok nmX3 hown hK.1 hP hD hS 0 rfl rfl 1 (by decide) fl7 (fun _ h9 => h9) rfl hin rfl (by decide +kernel) rfl rfl (Nat.le_of_ble_eq_true rfl) dX3_init_10 (fun H locs hP hD hS => ?_)
  have hP : va_P (dC, dI) vwCl [(h, .inr (4, [.int 0, .ref q8, .null, .int 0, .int 0, .null, .null, .int 0, .int 0, .int 0, .int 0, .null, .int 0])), (q8, .inl (cI, 2048, .inl (fun _ => 0)))] H := hP
  have hD : va_D A [(h, .inr (4, [.int 0, .ref q8, .null, .int 0, .int 0, .null, .null, .int 0, .int 0, .int 0, .int 0, .null, .int 0])), (q8, .inl (cI, 2048, .inl (fun _ => 0)))] := hD
  refine lv_aload_n hx hb dX3_init_13 rfl (lv_at hl 0 rfl) ?_
  refine lv_sipush (v := 2048) hx hb dX3_init_14 (by decide) ?_
  refine k_newa (N := 2048) hx hb (hts (.arrayClass .int) (by decide +kernel)) hK hP hD hS hA (by omega) (Nat.le_of_ble_eq_true rfl) (by show _ ≤ 6436; omega) dX3_init_17 (fun q17 H hP hD hS => ?_)
  have hP : va_P (dC, dI) vwCl [(h, .inr (4, [.int 0, .ref q8, .null, .int 0, .int 0, .null, .null, .int 0, .int 0, .int 0, .int 0, .null, .int 0])), (q8, .inl (cI, 2048, .inl (fun _ => 0))), (q17, .inl (cI, 2048, .inl (fun _ => 0)))] H := hP
  have hD : va_D A [(h, .inr (4, [.int 0, .ref q8, .null, .int 0, .int 0, .null, .null, .int 0, .int 0, .int 0, .int 0, .null, .int 0])), (q8, .inl (cI, 2048, .inl (fun _ => 0))), (q17, .inl (cI, 2048, .inl (fun _ => 0)))] := hD
  refine W.widen (k := 2) (n := 4096) (Nat.le_of_ble_eq_true rfl) (by show _ ≤ 4096; omega) ?_
  refine va_putF (D := (dC, dI)) (ci := 4) (v := .ref q17) (ty := .array .int) (C := RX3) (T := TX3) (N := 13) hx hb hts inX3 tyX3 tyX3_ok nmX3 hown hK.1 hP hD hS 0 rfl rfl 2 (by decide) fl13 (fun _ h9 => h9) rfl hin rfl (by decide +kernel) rfl rfl (Nat.le_of_ble_eq_true rfl) dX3_init_19 (fun H locs hP hD hS => ?_)
  have hP : va_P (dC, dI) vwCl [(h, .inr (4, [.int 0, .ref q8, .ref q17, .int 0, .int 0, .null, .null, .int 0, .int 0, .int 0, .int 0, .null, .int 0])), (q8, .inl (cI, 2048, .inl (fun _ => 0))), (q17, .inl (cI, 2048, .inl (fun _ => 0)))] H := hP
  have hD : va_D A [(h, .inr (4, [.int 0, .ref q8, .ref q17, .int 0, .int 0, .null, .null, .int 0, .int 0, .int 0, .int 0, .null, .int 0])), (q8, .inl (cI, 2048, .inl (fun _ => 0))), (q17, .inl (cI, 2048, .inl (fun _ => 0)))] := hD
  refine lv_aload_n hx hb dX3_init_22 rfl (lv_at hl 0 rfl) ?_
  refine lv_iconst (v := 1) hx hb dX3_init_23 (by decide) ?_
  refine va_put (D := (dC, dI)) (ci := 4) (v := .int 1) (ty := .boolean) (C := RX3) (T := TX3) (N := 13) hx hb hts inX3 tyX3 tyX3_ok nmX3 hown hK.1 hP hD hS 0 rfl rfl 4 (by decide) fl16 (fun _ h9 => h9) rfl (by decide +kernel) rfl rfl (Nat.le_of_ble_eq_true rfl) dX3_init_24 (fun H locs hP hD hS => ?_)
  have hP : va_P (dC, dI) vwCl [(h, .inr (4, [.int 0, .ref q8, .ref q17, .int 0, .int 1, .null, .null, .int 0, .int 0, .int 0, .int 0, .null, .int 0])), (q8, .inl (cI, 2048, .inl (fun _ => 0))), (q17, .inl (cI, 2048, .inl (fun _ => 0)))] H := hP
  have hD : va_D A [(h, .inr (4, [.int 0, .ref q8, .ref q17, .int 0, .int 1, .null, .null, .int 0, .int 0, .int 0, .int 0, .null, .int 0])), (q8, .inl (cI, 2048, .inl (fun _ => 0))), (q17, .inl (cI, 2048, .inl (fun _ => 0)))] := hD
  refine lv_aload_n hx hb dX3_init_27 rfl (lv_at hl 0 rfl) ?_
  refine lv_sipush (v := 2080) hx hb dX3_init_28 (by decide) ?_
  refine k_newa (N := 2080) hx hb (hts (.arrayClass .int) (by decide +kernel)) hK hP hD hS hA (by omega) (Nat.le_of_ble_eq_true rfl) (by show _ ≤ 6436; omega) dX3_init_31 (fun q31 H hP hD hS => ?_)
  have hP : va_P (dC, dI) vwCl [(h, .inr (4, [.int 0, .ref q8, .ref q17, .int 0, .int 1, .null, .null, .int 0, .int 0, .int 0, .int 0, .null, .int 0])), (q8, .inl (cI, 2048, .inl (fun _ => 0))), (q17, .inl (cI, 2048, .inl (fun _ => 0))), (q31, .inl (cI, 2080, .inl (fun _ => 0)))] H := hP
  have hD : va_D A [(h, .inr (4, [.int 0, .ref q8, .ref q17, .int 0, .int 1, .null, .null, .int 0, .int 0, .int 0, .int 0, .null, .int 0])), (q8, .inl (cI, 2048, .inl (fun _ => 0))), (q17, .inl (cI, 2048, .inl (fun _ => 0))), (q31, .inl (cI, 2080, .inl (fun _ => 0)))] := hD
  refine W.widen (k := 3) (n := 6176) (Nat.le_of_ble_eq_true rfl) (by show _ ≤ 6176; omega) ?_
  refine va_putF (D := (dC, dI)) (ci := 4) (v := .ref q31) (ty := .array .int) (C := RX3) (T := TX3) (N := 13) hx hb hts inX3 tyX3 tyX3_ok nmX3 hown hK.1 hP hD hS 0 rfl rfl 5 (by decide) fl20 (fun _ h9 => h9) rfl hin rfl (by decide +kernel) rfl rfl (Nat.le_of_ble_eq_true rfl) dX3_init_33 (fun H locs hP hD hS => ?_)
  have hP : va_P (dC, dI) vwCl [(h, .inr (4, [.int 0, .ref q8, .ref q17, .int 0, .int 1, .ref q31, .null, .int 0, .int 0, .int 0, .int 0, .null, .int 0])), (q8, .inl (cI, 2048, .inl (fun _ => 0))), (q17, .inl (cI, 2048, .inl (fun _ => 0))), (q31, .inl (cI, 2080, .inl (fun _ => 0)))] H := hP
  have hD : va_D A [(h, .inr (4, [.int 0, .ref q8, .ref q17, .int 0, .int 1, .ref q31, .null, .int 0, .int 0, .int 0, .int 0, .null, .int 0])), (q8, .inl (cI, 2048, .inl (fun _ => 0))), (q17, .inl (cI, 2048, .inl (fun _ => 0))), (q31, .inl (cI, 2080, .inl (fun _ => 0)))] := hD
  refine lv_aload_n hx hb dX3_init_36 rfl (lv_at hl 0 rfl) ?_
  refine lv_sipush (v := 240) hx hb dX3_init_37 (by decide) ?_
  refine k_newa (N := 240) hx hb (hts (.arrayClass .int) (by decide +kernel)) hK hP hD hS hA (by omega) (Nat.le_of_ble_eq_true rfl) (by show _ ≤ 6436; omega) dX3_init_40 (fun q40 H hP hD hS => ?_)
  have hP : va_P (dC, dI) vwCl [(h, .inr (4, [.int 0, .ref q8, .ref q17, .int 0, .int 1, .ref q31, .null, .int 0, .int 0, .int 0, .int 0, .null, .int 0])), (q8, .inl (cI, 2048, .inl (fun _ => 0))), (q17, .inl (cI, 2048, .inl (fun _ => 0))), (q31, .inl (cI, 2080, .inl (fun _ => 0))), (q40, .inl (cI, 240, .inl (fun _ => 0)))] H := hP
  have hD : va_D A [(h, .inr (4, [.int 0, .ref q8, .ref q17, .int 0, .int 1, .ref q31, .null, .int 0, .int 0, .int 0, .int 0, .null, .int 0])), (q8, .inl (cI, 2048, .inl (fun _ => 0))), (q17, .inl (cI, 2048, .inl (fun _ => 0))), (q31, .inl (cI, 2080, .inl (fun _ => 0))), (q40, .inl (cI, 240, .inl (fun _ => 0)))] := hD
  refine W.widen (k := 4) (n := 6416) (Nat.le_of_ble_eq_true rfl) (by show _ ≤ 6416; omega) ?_
  refine va_putF (D := (dC, dI)) (ci := 4) (v := .ref q40) (ty := .array .int) (C := RX3) (T := TX3) (N := 13) hx hb hts inX3 tyX3 tyX3_ok nmX3 hown hK.1 hP hD hS 0 rfl rfl 6 (by decide) fl23 (fun _ h9 => h9) rfl hin rfl (by decide +kernel) rfl rfl (Nat.le_of_ble_eq_true rfl) dX3_init_42 (fun H locs hP hD hS => ?_)
  have hP : va_P (dC, dI) vwCl [(h, .inr (4, [.int 0, .ref q8, .ref q17, .int 0, .int 1, .ref q31, .ref q40, .int 0, .int 0, .int 0, .int 0, .null, .int 0])), (q8, .inl (cI, 2048, .inl (fun _ => 0))), (q17, .inl (cI, 2048, .inl (fun _ => 0))), (q31, .inl (cI, 2080, .inl (fun _ => 0))), (q40, .inl (cI, 240, .inl (fun _ => 0)))] H := hP
  have hD : va_D A [(h, .inr (4, [.int 0, .ref q8, .ref q17, .int 0, .int 1, .ref q31, .ref q40, .int 0, .int 0, .int 0, .int 0, .null, .int 0])), (q8, .inl (cI, 2048, .inl (fun _ => 0))), (q17, .inl (cI, 2048, .inl (fun _ => 0))), (q31, .inl (cI, 2080, .inl (fun _ => 0))), (q40, .inl (cI, 240, .inl (fun _ => 0)))] := hD
  refine lv_aload_n hx hb dX3_init_45 rfl (lv_at hl 0 rfl) ?_
  refine lv_bipush (v := 20) hx hb dX3_init_46 (by decide) ?_
  refine k_newa (N := 20) hx hb (hts (.arrayClass .int) (by decide +kernel)) hK hP hD hS hA (by omega) (Nat.le_of_ble_eq_true rfl) (by show _ ≤ 6436; omega) dX3_init_48 (fun q48 H hP hD hS => ?_)
  have hP : va_P (dC, dI) vwCl [(h, .inr (4, [.int 0, .ref q8, .ref q17, .int 0, .int 1, .ref q31, .ref q40, .int 0, .int 0, .int 0, .int 0, .null, .int 0])), (q8, .inl (cI, 2048, .inl (fun _ => 0))), (q17, .inl (cI, 2048, .inl (fun _ => 0))), (q31, .inl (cI, 2080, .inl (fun _ => 0))), (q40, .inl (cI, 240, .inl (fun _ => 0))), (q48, .inl (cI, 20, .inl (fun _ => 0)))] H := hP
  have hD : va_D A [(h, .inr (4, [.int 0, .ref q8, .ref q17, .int 0, .int 1, .ref q31, .ref q40, .int 0, .int 0, .int 0, .int 0, .null, .int 0])), (q8, .inl (cI, 2048, .inl (fun _ => 0))), (q17, .inl (cI, 2048, .inl (fun _ => 0))), (q31, .inl (cI, 2080, .inl (fun _ => 0))), (q40, .inl (cI, 240, .inl (fun _ => 0))), (q48, .inl (cI, 20, .inl (fun _ => 0)))] := hD
  refine W.widen (k := 5) (n := 6436) (Nat.le_of_ble_eq_true rfl) (by show _ ≤ 6436; omega) ?_
  refine va_putF (D := (dC, dI)) (ci := 4) (v := .ref q48) (ty := .array .int) (C := RX3) (T := TX3) (N := 13) hx hb hts inX3 tyX3 tyX3_ok nmX3 hown hK.1 hP hD hS 0 rfl rfl 11 (by decide) fl26 (fun _ h9 => h9) rfl hin rfl (by decide +kernel) rfl rfl (Nat.le_of_ble_eq_true rfl) dX3_init_50 (fun H locs hP hD hS => ?_)
  have hP : va_P (dC, dI) vwCl [(h, .inr (4, [.int 0, .ref q8, .ref q17, .int 0, .int 1, .ref q31, .ref q40, .int 0, .int 0, .int 0, .int 0, .ref q48, .int 0])), (q8, .inl (cI, 2048, .inl (fun _ => 0))), (q17, .inl (cI, 2048, .inl (fun _ => 0))), (q31, .inl (cI, 2080, .inl (fun _ => 0))), (q40, .inl (cI, 240, .inl (fun _ => 0))), (q48, .inl (cI, 20, .inl (fun _ => 0)))] H := hP
  have hD : va_D A [(h, .inr (4, [.int 0, .ref q8, .ref q17, .int 0, .int 1, .ref q31, .ref q40, .int 0, .int 0, .int 0, .int 0, .ref q48, .int 0])), (q8, .inl (cI, 2048, .inl (fun _ => 0))), (q17, .inl (cI, 2048, .inl (fun _ => 0))), (q31, .inl (cI, 2080, .inl (fun _ => 0))), (q40, .inl (cI, 240, .inl (fun _ => 0))), (q48, .inl (cI, 20, .inl (fun _ => 0)))] := hD
  refine lv_aload_n hx hb dX3_init_53 rfl (lv_at hl 0 rfl) ?_
  refine lv_bipush (v := 32) hx hb dX3_init_54 (by decide) ?_
  refine lv_iload_n hx hb dX3_init_56 rfl (lv_at hl 1 rfl) ?_
  refine lv_iconst (v := 1) hx hb dX3_init_57 (by decide) ?_
  refine lv_icmp_ge (tgt := 65) hx hb dX3_init_58 (by decide) (fun c1 => ?_) (fun c1 => ?_)
  · refine lv_iload_n hx hb dX3_init_65 rfl (lv_at hl 1 rfl) ?_
    refine lv_bipush (v := 64) hx hb dX3_init_66 (by decide) ?_
    refine lv_icmp_le (tgt := 76) hx hb dX3_init_68 (by decide) (fun c2 => ?_) (fun c2 => ?_)
    · refine lv_iload_n hx hb dX3_init_76 rfl (lv_at hl 1 rfl) ?_
      refine k_nrm (y := nI n) (sec_m hsec c1 c2) ?_
      refine lv_imul hx hb dX3_init_77 ?_
      refine k_nrm (y := nI (32 * n)) (pk_mul 32 n) ?_
      refine va_putF (D := (dC, dI)) (ci := 4) (v := .int (nI (32 * n))) (ty := .int) (C := RX3) (T := TX3) (N := 13) hx hb hts inX3 tyX3 tyX3_ok nmX3 hown hK.1 hP hD hS 0 rfl rfl 0 (by decide) fl29 (fun _ h9 => h9) rfl hin rfl (by decide +kernel) rfl rfl (Nat.le_of_ble_eq_true rfl) dX3_init_78 (fun H locs hP hD hS => ?_)
      have hP : va_P (dC, dI) vwCl [(h, .inr (4, [.int (nI (32 * n)), .ref q8, .ref q17, .int 0, .int 1, .ref q31, .ref q40, .int 0, .int 0, .int 0, .int 0, .ref q48, .int 0])), (q8, .inl (cI, 2048, .inl (fun _ => 0))), (q17, .inl (cI, 2048, .inl (fun _ => 0))), (q31, .inl (cI, 2080, .inl (fun _ => 0))), (q40, .inl (cI, 240, .inl (fun _ => 0))), (q48, .inl (cI, 20, .inl (fun _ => 0)))] H := hP
      have hD : va_D A [(h, .inr (4, [.int (nI (32 * n)), .ref q8, .ref q17, .int 0, .int 1, .ref q31, .ref q40, .int 0, .int 0, .int 0, .int 0, .ref q48, .int 0])), (q8, .inl (cI, 2048, .inl (fun _ => 0))), (q17, .inl (cI, 2048, .inl (fun _ => 0))), (q31, .inl (cI, 2080, .inl (fun _ => 0))), (q40, .inl (cI, 240, .inl (fun _ => 0))), (q48, .inl (cI, 20, .inl (fun _ => 0)))] := hD
      have hP9 := hP.sub (ws' := [(h, .inr (4, [.int (nI (32 * n)), .ref q8, .ref q17, .int 0, .int 1, .ref q31, .ref q40, .int 0, .int 0, .int 0, .int 0, .ref q48, .int 0])), (q8, .inl (cI, 2048, .inl (fun _ => 0))), (q17, .inl (cI, 2048, .inl (fun _ => 0))), (q31, .inl (cI, 2080, .inl (fun _ => 0))), (q40, .inl (cI, 240, .inl (fun _ => 0))), (q48, .inl (cI, 20, .inl (fun _ => 0)))]) [0, 1, 2, 3, 4, 5] rfl
      have hD9 := hD.sub (ws' := [(h, .inr (4, [.int (nI (32 * n)), .ref q8, .ref q17, .int 0, .int 1, .ref q31, .ref q40, .int 0, .int 0, .int 0, .int 0, .ref q48, .int 0])), (q8, .inl (cI, 2048, .inl (fun _ => 0))), (q17, .inl (cI, 2048, .inl (fun _ => 0))), (q31, .inl (cI, 2080, .inl (fun _ => 0))), (q40, .inl (cI, 240, .inl (fun _ => 0))), (q48, .inl (cI, 20, .inl (fun _ => 0)))]) [0, 1, 2, 3, 4, 5] (by decide) rfl
      refine W.widen (k := 5) (n := 6436) (Nat.le_of_ble_eq_true rfl) (Nat.le_of_ble_eq_true rfl) ?_
      exact W.vret hx hb hr (fun t ht hW => ⟨rfl, ⟨_, ⟨q8, q17, q31, q40, q48, rfl⟩, by rw [ht]; exact hP9, by rw [hAe]; exact hD9⟩, by rw [hAe]; exact hS.F ht⟩) hS.2.2 dX3_init_81
    · refine lv_bipush (v := 64) hx hb dX3_init_71 (by decide) ?_
      refine lv_goto (tgt := 77) hx hb dX3_init_73 (by decide) ?_
      refine k_nrm (y := nI n) (sec_64 hsec c2) ?_
      refine lv_imul hx hb dX3_init_77 ?_
      refine k_nrm (y := nI (32 * n)) (pk_mul 32 n) ?_
      refine va_putF (D := (dC, dI)) (ci := 4) (v := .int (nI (32 * n))) (ty := .int) (C := RX3) (T := TX3) (N := 13) hx hb hts inX3 tyX3 tyX3_ok nmX3 hown hK.1 hP hD hS 0 rfl rfl 0 (by decide) fl29 (fun _ h9 => h9) rfl hin rfl (by decide +kernel) rfl rfl (Nat.le_of_ble_eq_true rfl) dX3_init_78 (fun H locs hP hD hS => ?_)
      have hP : va_P (dC, dI) vwCl [(h, .inr (4, [.int (nI (32 * n)), .ref q8, .ref q17, .int 0, .int 1, .ref q31, .ref q40, .int 0, .int 0, .int 0, .int 0, .ref q48, .int 0])), (q8, .inl (cI, 2048, .inl (fun _ => 0))), (q17, .inl (cI, 2048, .inl (fun _ => 0))), (q31, .inl (cI, 2080, .inl (fun _ => 0))), (q40, .inl (cI, 240, .inl (fun _ => 0))), (q48, .inl (cI, 20, .inl (fun _ => 0)))] H := hP
      have hD : va_D A [(h, .inr (4, [.int (nI (32 * n)), .ref q8, .ref q17, .int 0, .int 1, .ref q31, .ref q40, .int 0, .int 0, .int 0, .int 0, .ref q48, .int 0])), (q8, .inl (cI, 2048, .inl (fun _ => 0))), (q17, .inl (cI, 2048, .inl (fun _ => 0))), (q31, .inl (cI, 2080, .inl (fun _ => 0))), (q40, .inl (cI, 240, .inl (fun _ => 0))), (q48, .inl (cI, 20, .inl (fun _ => 0)))] := hD
      have hP9 := hP.sub (ws' := [(h, .inr (4, [.int (nI (32 * n)), .ref q8, .ref q17, .int 0, .int 1, .ref q31, .ref q40, .int 0, .int 0, .int 0, .int 0, .ref q48, .int 0])), (q8, .inl (cI, 2048, .inl (fun _ => 0))), (q17, .inl (cI, 2048, .inl (fun _ => 0))), (q31, .inl (cI, 2080, .inl (fun _ => 0))), (q40, .inl (cI, 240, .inl (fun _ => 0))), (q48, .inl (cI, 20, .inl (fun _ => 0)))]) [0, 1, 2, 3, 4, 5] rfl
      have hD9 := hD.sub (ws' := [(h, .inr (4, [.int (nI (32 * n)), .ref q8, .ref q17, .int 0, .int 1, .ref q31, .ref q40, .int 0, .int 0, .int 0, .int 0, .ref q48, .int 0])), (q8, .inl (cI, 2048, .inl (fun _ => 0))), (q17, .inl (cI, 2048, .inl (fun _ => 0))), (q31, .inl (cI, 2080, .inl (fun _ => 0))), (q40, .inl (cI, 240, .inl (fun _ => 0))), (q48, .inl (cI, 20, .inl (fun _ => 0)))]) [0, 1, 2, 3, 4, 5] (by decide) rfl
      refine W.widen (k := 5) (n := 6436) (Nat.le_of_ble_eq_true rfl) (Nat.le_of_ble_eq_true rfl) ?_
      exact W.vret hx hb hr (fun t ht hW => ⟨rfl, ⟨_, ⟨q8, q17, q31, q40, q48, rfl⟩, by rw [ht]; exact hP9, by rw [hAe]; exact hD9⟩, by rw [hAe]; exact hS.F ht⟩) hS.2.2 dX3_init_81
  · refine lv_iconst (v := 1) hx hb dX3_init_61 (by decide) ?_
    refine lv_goto (tgt := 77) hx hb dX3_init_62 (by decide) ?_
    refine k_nrm (y := nI n) (sec_1 hsec c1) ?_
    refine lv_imul hx hb dX3_init_77 ?_
    refine k_nrm (y := nI (32 * n)) (pk_mul 32 n) ?_
    refine va_putF (D := (dC, dI)) (ci := 4) (v := .int (nI (32 * n))) (ty := .int) (C := RX3) (T := TX3) (N := 13) hx hb hts inX3 tyX3 tyX3_ok nmX3 hown hK.1 hP hD hS 0 rfl rfl 0 (by decide) fl29 (fun _ h9 => h9) rfl hin rfl (by decide +kernel) rfl rfl (Nat.le_of_ble_eq_true rfl) dX3_init_78 (fun H locs hP hD hS => ?_)
    have hP : va_P (dC, dI) vwCl [(h, .inr (4, [.int (nI (32 * n)), .ref q8, .ref q17, .int 0, .int 1, .ref q31, .ref q40, .int 0, .int 0, .int 0, .int 0, .ref q48, .int 0])), (q8, .inl (cI, 2048, .inl (fun _ => 0))), (q17, .inl (cI, 2048, .inl (fun _ => 0))), (q31, .inl (cI, 2080, .inl (fun _ => 0))), (q40, .inl (cI, 240, .inl (fun _ => 0))), (q48, .inl (cI, 20, .inl (fun _ => 0)))] H := hP
    have hD : va_D A [(h, .inr (4, [.int (nI (32 * n)), .ref q8, .ref q17, .int 0, .int 1, .ref q31, .ref q40, .int 0, .int 0, .int 0, .int 0, .ref q48, .int 0])), (q8, .inl (cI, 2048, .inl (fun _ => 0))), (q17, .inl (cI, 2048, .inl (fun _ => 0))), (q31, .inl (cI, 2080, .inl (fun _ => 0))), (q40, .inl (cI, 240, .inl (fun _ => 0))), (q48, .inl (cI, 20, .inl (fun _ => 0)))] := hD
    have hP9 := hP.sub (ws' := [(h, .inr (4, [.int (nI (32 * n)), .ref q8, .ref q17, .int 0, .int 1, .ref q31, .ref q40, .int 0, .int 0, .int 0, .int 0, .ref q48, .int 0])), (q8, .inl (cI, 2048, .inl (fun _ => 0))), (q17, .inl (cI, 2048, .inl (fun _ => 0))), (q31, .inl (cI, 2080, .inl (fun _ => 0))), (q40, .inl (cI, 240, .inl (fun _ => 0))), (q48, .inl (cI, 20, .inl (fun _ => 0)))]) [0, 1, 2, 3, 4, 5] rfl
    have hD9 := hD.sub (ws' := [(h, .inr (4, [.int (nI (32 * n)), .ref q8, .ref q17, .int 0, .int 1, .ref q31, .ref q40, .int 0, .int 0, .int 0, .int 0, .ref q48, .int 0])), (q8, .inl (cI, 2048, .inl (fun _ => 0))), (q17, .inl (cI, 2048, .inl (fun _ => 0))), (q31, .inl (cI, 2080, .inl (fun _ => 0))), (q40, .inl (cI, 240, .inl (fun _ => 0))), (q48, .inl (cI, 20, .inl (fun _ => 0)))]) [0, 1, 2, 3, 4, 5] (by decide) rfl
    refine W.widen (k := 5) (n := 6436) (Nat.le_of_ble_eq_true rfl) (Nat.le_of_ble_eq_true rfl) ?_
    exact W.vret hx hb hr (fun t ht hW => ⟨rfl, ⟨_, ⟨q8, q17, q31, q40, q48, rfl⟩, by rw [ht]; exact hP9, by rw [hAe]; exact hD9⟩, by rw [hAe]; exact hS.F ht⟩) hS.2.2 dX3_init_81
