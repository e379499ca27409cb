set_option maxHeartbeats 4000000 in
set_option maxRecDepth 100000 in
theorem m_X1_markAllOnDisk (l : Launch) (dC : Nat → ClassId) (dI : Nat → Nat → Nat) (cI cJ : ClassId) (r : Nat) (qi : Nat) (ai : Nat) (qs : Nat) (aS : Nat) (qk : Nat) (ak : Nat) (qt : Nat) (aT : Nat) (N : Nat) (K : Nat) (fi : Nat → Int32) (fs : Nat → Int32) (fk : Nat → Int32) (ft : Nat → Int32) (last : Int32) (used : Int32) (lod : Int32) (uod : Int32)  : cW l yX1_markAllOnDisk wsX1_markAllOnDisk ({ frames := 0, cells := 0, slots := 0, locals := 0 }) dC dI cI cJ [(r, .inr (2, [.ref qi, .ref qs, .ref qk, .ref qt, .int last, .int used, .int lod, .int uod])), (qi, .inr (1, [.ref ai])), (ai, .inl (cI, N, .inl fi)), (qs, .inr (1, [.ref aS])), (aS, .inl (cI, K, .inl fs)), (qk, .inr (1, [.ref ak])), (ak, .inl (cI, 6, .inl fk)), (qt, .inr (1, [.ref aT])), (aT, .inl (cI, 8, .inl ft))] [(r, .inr (2, [.ref qi, .ref qs, .ref qk, .ref qt, .int last, .int used, .int last, .int used])), (qi, .inr (1, [.ref ai])), (ai, .inl (cI, N, .inl fi)), (qs, .inr (1, [.ref aS])), (aS, .inl (cI, K, .inl fs)), (qk, .inr (1, [.ref ak])), (ak, .inl (cI, 6, .inl fk)), (qt, .inr (1, [.ref aT])), (aT, .inl (cI, 8, .inl ft))] [r, qi, ai, qs, aS, qk, ak, qt, aT] [.ref r] none := by
  refine Met.ofW (cc := cX1_markAllOnDisk) (maxL := 1) (ret := none) (by decide) rfl ?_
  intro p e s m args below meth c s₁ B hml hv
  obtain ⟨rfl, hP, hK, hD0⟩ := hv
  have hx := B.exec
  have hb := B.bytes
  have hr := B.returns
  have hts := atoms_spec (ws := wsX1_markAllOnDisk) B.pre
  have hown : s.vm.findClass RX1 = some m.cls := findClass_of_methodNamed B.named
  have hlocks := B.notSynchronized
  have inX1 : ∀ w ∈ wsX10, w ∈ wsX1_markAllOnDisk := fun w h => (List.mem_cons_of_mem _ (List.mem_append_right _ h))
  have fl29 := hts (.fieldLink RX1 29 "StockLog$Rows" "last" "I") (by decide +kernel)
  have fl47 := hts (.fieldLink RX1 47 "StockLog$Rows" "used" "I") (by decide +kernel)
  have fl50 := hts (.fieldLink RX1 50 "StockLog$Rows" "usedOnDisk" "I") (by decide +kernel)
  have fl75 := hts (.fieldLink RX1 75 "StockLog$Rows" "lastOnDisk" "I") (by decide +kernel)
  have hD : va_D (mA [r, qi, ai, qs, aS, qk, ak, qt, aT]) [(r, .inr (2, [.ref qi, .ref qs, .ref qk, .ref qt, .int last, .int used, .int lod, .int uod])), (qi, .inr (1, [.ref ai])), (ai, .inl (cI, N, .inl fi)), (qs, .inr (1, [.ref aS])), (aS, .inl (cI, K, .inl fs)), (qk, .inr (1, [.ref ak])), (ak, .inl (cI, 6, .inl fk)), (qt, .inr (1, [.ref aT])), (aT, .inl (cI, 8, .inl ft))] := k_Dw hD0 rfl
  have hS : va_S (mA [r, qi, ai, qs, aS, qk, ak, qt, aT]) s.heap s.heap [] := va_S.rf
  have hl := lv_entry ([.ref r]) (n := 1) (Nat.le_of_ble_eq_true rfl)
  rw [lg_entry_eq]
  generalize (lg_sl ([.ref r]) ++ List.replicate (1 - (lg_sl ([.ref r])).length) Slot.unset).toArray = ls at hl ⊢
  have hl : lv_has ls 1 [(0, .ref r)] := hl
  refine lv_aload_n hx hb dX1_markAllOnDisk_0 rfl (lv_at hl 0 rfl) ?_
  refine lv_aload_n hx hb dX1_markAllOnDisk_1 rfl (lv_at hl 0 rfl) ?_
  refine k_get (ci := 2) (T := TX1) (N := 8) (C := RX1) hx hb hts inX1 hown hK hP 0 rfl rfl 4 (by decide) fl29 rfl rfl dX1_markAllOnDisk_2 ?_
  refine k_putf (ws' := [(r, .inr (2, [.ref qi, .ref qs, .ref qk, .ref qt, .int last, .int used, .int last, .int uod])), (qi, .inr (1, [.ref ai])), (ai, .inl (cI, N, .inl fi)), (qs, .inr (1, [.ref aS])), (aS, .inl (cI, K, .inl fs)), (qk, .inr (1, [.ref ak])), (ak, .inl (cI, 6, .inl fk)), (qt, .inr (1, [.ref aT])), (aT, .inl (cI, 8, .inl ft))]) (ci := 2) (T := TX1) (N := 8) (C := RX1) (ty := .int) hx hb hts inX1 tyX1 tyX1_ok nmX1 hown hK hP hD hS 0 rfl rfl 6 (by decide) fl75 rfl rfl rfl rfl rfl (Nat.le_of_ble_eq_true rfl) dX1_markAllOnDisk_5 rfl (fun H locs hP hD hS => ?_)
  refine lv_aload_n hx hb dX1_markAllOnDisk_8 rfl (lv_at hl 0 rfl) ?_
  refine lv_aload_n hx hb dX1_markAllOnDisk_9 rfl (lv_at hl 0 rfl) ?_
  refine k_get (ci := 2) (T := TX1) (N := 8) (C := RX1) hx hb hts inX1 hown hK hP 0 rfl rfl 5 (by decide) fl47 rfl rfl dX1_markAllOnDisk_10 ?_
  refine k_putf (ws' := [(r, .inr (2, [.ref qi, .ref qs, .ref qk, .ref qt, .int last, .int used, .int last, .int used])), (qi, .inr (1, [.ref ai])), (ai, .inl (cI, N, .inl fi)), (qs, .inr (1, [.ref aS])), (aS, .inl (cI, K, .inl fs)), (qk, .inr (1, [.ref ak])), (ak, .inl (cI, 6, .inl fk)), (qt, .inr (1, [.ref aT])), (aT, .inl (cI, 8, .inl ft))]) (ci := 2) (T := TX1) (N := 8) (C := RX1) (ty := .int) hx hb hts inX1 tyX1 tyX1_ok nmX1 hown hK hP hD hS 0 rfl rfl 7 (by decide) fl50 rfl rfl rfl rfl rfl (Nat.le_of_ble_eq_true rfl) dX1_markAllOnDisk_13 rfl (fun H locs hP hD hS => ?_)
  exact k_vretW hx hb hr hlocks hP hS rfl dX1_markAllOnDisk_16
set_option maxHeartbeats 4000000 in
set_option maxRecDepth 100000 in
theorem m_X1_dropMemory (l : Launch) (dC : Nat → ClassId) (dI : Nat → Nat → Nat) (cI cJ : ClassId) (r : Nat) (qi : Nat) (ai : Nat) (qs : Nat) (aS : Nat) (qk : Nat) (ak : Nat) (qt : Nat) (aT : Nat) (N : Nat) (K : Nat) (fi : Nat → Int32) (fs : Nat → Int32) (fk : Nat → Int32) (ft : Nat → Int32) (last : Int32) (used : Int32) (lod : Int32) (uod : Int32) (hN : N < 2 ^ 31) (hK9 : K < 2 ^ 31) (hlast : last < 2147483647) : cW l yX1_dropMemory wsX1_dropMemory ({ frames := 2, cells := 0, slots := 0, locals := 42 }) dC dI cI cJ [(r, .inr (2, [.ref qi, .ref qs, .ref qk, .ref qt, .int last, .int used, .int lod, .int uod])), (qi, .inr (1, [.ref ai])), (ai, .inl (cI, N, .inl fi)), (qs, .inr (1, [.ref aS])), (aS, .inl (cI, K, .inl fs)), (qk, .inr (1, [.ref ak])), (ak, .inl (cI, 6, .inl fk)), (qt, .inr (1, [.ref aT])), (aT, .inl (cI, 8, .inl ft))] [(r, .inr (2, [.ref qi, .ref qs, .ref qk, .ref qt, .int lod, .int uod, .int lod, .int uod])), (qi, .inr (1, [.ref ai])), (ai, .inl (cI, N, .inl fi)), (qs, .inr (1, [.ref aS])), (aS, .inl (cI, K, .inl fs)), (qk, .inr (1, [.ref ak])), (ak, .inl (cI, 6, .inl (rw_drop N K fi fs fk last lod))), (qt, .inr (1, [.ref aT])), (aT, .inl (cI, 8, .inl ft))] [r, qi, ai, qs, aS, qk, ak, qt, aT] [.ref r] none := by
  refine Met.ofW (cc := cX1_dropMemory) (maxL := 3) (ret := none) (by decide) rfl ?_
  intro p e s m args below meth c s₁ B hml hv
  obtain ⟨rfl, hP, hK, hD0⟩ := hv
  have hx := B.exec
  have hb := B.bytes
  have hr := B.returns
  have hts := atoms_spec (ws := wsX1_dropMemory) B.pre
  have hown : s.vm.findClass RX1 = some m.cls := findClass_of_methodNamed B.named
  have hlocks := B.notSynchronized
  have inX1 : ∀ w ∈ wsX10, w ∈ wsX1_dropMemory := fun w h => (List.mem_cons_of_mem _ (List.mem_append_left _ (List.mem_append_right _ h)))
  have fl23 := hts (.fieldLink RX1 23 "StockLog$Rows" "ofKind" "LStockLog$Cells;") (by decide +kernel)
  have fl29 := hts (.fieldLink RX1 29 "StockLog$Rows" "last" "I") (by decide +kernel)
  have fl47 := hts (.fieldLink RX1 47 "StockLog$Rows" "used" "I") (by decide +kernel)
  have fl50 := hts (.fieldLink RX1 50 "StockLog$Rows" "usedOnDisk" "I") (by decide +kernel)
  have fl75 := hts (.fieldLink RX1 75 "StockLog$Rows" "lastOnDisk" "I") (by decide +kernel)
  have hD : va_D (mA [r, qi, ai, qs, aS, qk, ak, qt, aT]) [(r, .inr (2, [.ref qi, .ref qs, .ref qk, .ref qt, .int last, .int used, .int lod, .int uod])), (qi, .inr (1, [.ref ai])), (ai, .inl (cI, N, .inl fi)), (qs, .inr (1, [.ref aS])), (aS, .inl (cI, K, .inl fs)), (qk, .inr (1, [.ref ak])), (ak, .inl (cI, 6, .inl fk)), (qt, .inr (1, [.ref aT])), (aT, .inl (cI, 8, .inl ft))] := k_Dw hD0 rfl
  have hS : va_S (mA [r, qi, ai, qs, aS, qk, ak, qt, aT]) s.heap s.heap [] := va_S.rf
  have hl := lv_entry ([.ref r]) (n := 3) (Nat.le_of_ble_eq_true rfl)
  rw [lg_entry_eq]
  generalize (lg_sl ([.ref r]) ++ List.replicate (3 - (lg_sl ([.ref r])).length) Slot.unset).toArray = ls at hl ⊢
  have hl : lv_has ls 3 [(0, .ref r)] := hl
  refine lv_aload_n hx hb dX1_dropMemory_0 rfl (lv_at hl 0 rfl) ?_
  refine k_get (ci := 2) (T := TX1) (N := 8) (C := RX1) hx hb hts inX1 hown hK hP 0 rfl rfl 6 (by decide) fl75 rfl rfl dX1_dropMemory_1 ?_
  refine lv_iconst (v := 1) hx hb dX1_dropMemory_4 (by decide) ?_
  refine lv_iadd hx hb dX1_dropMemory_5 ?_
  refine lv_istore_n (lv' := [(1, .int (lod + 1)), (0, .ref r)]) hx hb dX1_dropMemory_6 rfl hl (by decide) rfl (fun ls hl => ?_)
  have loop7 : ∀ (n : Nat) (number : Int32) (x : Nat → Int32) (H : Heap) (locs : List Loc) (ls : Array Slot), (loopE (last + 1) (fun number (x : Nat → Int32) => (.inl (rw_dec x (rw_kindOf N K fi fs number)) : (Nat → Int32) ⊕ (Nat → Int32))) id number x = rw_drop N K fi fs fk last lod) → ((last + 1).toInt - number.toInt).toNat < n → va_P (dC, dI) vwCl [(r, .inr (2, [.ref qi, .ref qs, .ref qk, .ref qt, .int last, .int used, .int lod, .int uod])), (qi, .inr (1, [.ref ai])), (ai, .inl (cI, N, .inl fi)), (qs, .inr (1, [.ref aS])), (aS, .inl (cI, K, .inl fs)), (qk, .inr (1, [.ref ak])), (ak, .inl (cI, 6, .inl x)), (qt, .inr (1, [.ref aT])), (aT, .inl (cI, 8, .inl ft))] H → va_D (mA [r, qi, ai, qs, aS, qk, ak, qt, aT]) [(r, .inr (2, [.ref qi, .ref qs, .ref qk, .ref qt, .int last, .int used, .int lod, .int uod])), (qi, .inr (1, [.ref ai])), (ai, .inl (cI, N, .inl fi)), (qs, .inr (1, [.ref aS])), (aS, .inl (cI, K, .inl fs)), (qk, .inr (1, [.ref ak])), (ak, .inl (cI, 6, .inl x)), (qt, .inr (1, [.ref aT])), (aT, .inl (cI, 8, .inl ft))] → va_S (mA [r, qi, ai, qs, aS, qk, ak, qt, aT]) s.heap H locs → lv_has ls 3 [(1, .int number), (0, .ref r)] → W p l e (headSpec wsX1_dropMemory ({ frames := 2, cells := 0, slots := 0, locals := 42 })).room s m ([.ref r] : List Value).toArray below meth c H locs 0 0 (MQ below (mQ dC dI [(r, .inr (2, [.ref qi, .ref qs, .ref qk, .ref qt, .int lod, .int uod, .int lod, .int uod])), (qi, .inr (1, [.ref ai])), (ai, .inl (cI, N, .inl fi)), (qs, .inr (1, [.ref aS])), (aS, .inl (cI, K, .inl fs)), (qk, .inr (1, [.ref ak])), (ak, .inl (cI, 6, .inl (rw_drop N K fi fs fk last lod))), (qt, .inr (1, [.ref aT])), (aT, .inl (cI, 8, .inl ft))] [r, qi, ai, qs, aS, qk, ak, qt, aT] none) ([.ref r] : List Value).toArray s 0 0 (mA [r, qi, ai, qs, aS, qk, ak, qt, aT])) (F0 m 7 ls []) := by
    intro n
    induction n with
    | zero => intro number x H locs ls hi hm; exact absurd hm (Nat.not_lt_zero _)
    | succ n ih =>
      intro number x H locs ls hi hm hP hD hS hl
      refine lv_iload_n hx hb dX1_dropMemory_7 rfl (lv_at hl 0 rfl) ?_
      refine lv_aload_n hx hb dX1_dropMemory_8 rfl (lv_at hl 1 rfl) ?_
      refine k_get (ci := 2) (T := TX1) (N := 8) (C := RX1) hx hb hts inX1 hown hK hP 0 rfl rfl 4 (by decide) fl29 rfl rfl dX1_dropMemory_9 ?_
      refine lv_icmp_gt (tgt := 45) hx hb dX1_dropMemory_12 (by decide) (fun c1 => ?_) (fun c1 => ?_)
      · refine lv_aload_n hx hb dX1_dropMemory_45 rfl (lv_at hl 1 rfl) ?_
        refine lv_aload_n hx hb dX1_dropMemory_46 rfl (lv_at hl 1 rfl) ?_
        refine k_get (ci := 2) (T := TX1) (N := 8) (C := RX1) hx hb hts inX1 hown hK hP 0 rfl rfl 6 (by decide) fl75 rfl rfl dX1_dropMemory_47 ?_
        refine k_putf (ws' := [(r, .inr (2, [.ref qi, .ref qs, .ref qk, .ref qt, .int lod, .int used, .int lod, .int uod])), (qi, .inr (1, [.ref ai])), (ai, .inl (cI, N, .inl fi)), (qs, .inr (1, [.ref aS])), (aS, .inl (cI, K, .inl fs)), (qk, .inr (1, [.ref ak])), (ak, .inl (cI, 6, .inl x)), (qt, .inr (1, [.ref aT])), (aT, .inl (cI, 8, .inl ft))]) (ci := 2) (T := TX1) (N := 8) (C := RX1) (ty := .int) hx hb hts inX1 tyX1 tyX1_ok nmX1 hown hK hP hD hS 0 rfl rfl 4 (by decide) fl29 rfl rfl rfl rfl rfl (Nat.le_of_ble_eq_true rfl) dX1_dropMemory_50 rfl (fun H locs hP hD hS => ?_)
        refine lv_aload_n hx hb dX1_dropMemory_53 rfl (lv_at hl 1 rfl) ?_
        refine lv_aload_n hx hb dX1_dropMemory_54 rfl (lv_at hl 1 rfl) ?_
        refine k_get (ci := 2) (T := TX1) (N := 8) (C := RX1) hx hb hts inX1 hown hK hP 0 rfl rfl 7 (by decide) fl50 rfl rfl dX1_dropMemory_55 ?_
        refine k_putf (ws' := [(r, .inr (2, [.ref qi, .ref qs, .ref qk, .ref qt, .int lod, .int uod, .int lod, .int uod])), (qi, .inr (1, [.ref ai])), (ai, .inl (cI, N, .inl fi)), (qs, .inr (1, [.ref aS])), (aS, .inl (cI, K, .inl fs)), (qk, .inr (1, [.ref ak])), (ak, .inl (cI, 6, .inl x)), (qt, .inr (1, [.ref aT])), (aT, .inl (cI, 8, .inl ft))]) (ci := 2) (T := TX1) (N := 8) (C := RX1) (ty := .int) hx hb hts inX1 tyX1 tyX1_ok nmX1 hown hK hP hD hS 0 rfl rfl 5 (by decide) fl47 rfl rfl rfl rfl rfl (Nat.le_of_ble_eq_true rfl) dX1_dropMemory_58 rfl (fun H locs hP hD hS => ?_)
        exact k_vretW hx hb hr hlocks hP hS (by rw [← hi, loopE_exit ((k_le1 hlast).mp c1)]; rfl) dX1_dropMemory_61
      · refine lv_aload_n hx hb dX1_dropMemory_15 rfl (lv_at hl 1 rfl) ?_
        refine lv_iload_n hx hb dX1_dropMemory_16 rfl (lv_at hl 0 rfl) ?_
        refine k_afP (va_runV (rest := []) ⟨hx, hb, hml, hown, hts⟩ (m_X1_kindOf l dC dI cI cJ r qi ai qs aS qk ak qt aT N K fi fs x ft last used lod uod number (by first | assumption | decide) (by first | assumption | decide)) (cwV 1 hts gX1_dropMemory_X1_kindOf rfl rfl rfl hdv_X1_kindOf ⟨Nat.le_of_ble_eq_true rfl, Nat.le_of_ble_eq_true rfl⟩) (k_preVP hK hP [0, 1, 2, 3, 4, 5, 6, 7, 8] rfl 0 rfl rfl) rfl rfl hl.1 rfl (lv_room (Nat.le_of_ble_eq_true rfl)) dX1_dropMemory_17 ⟨Nat.le_of_ble_eq_true rfl, Nat.le_of_ble_eq_true rfl⟩) ?_
        refine lv_istore_n (lv' := [(2, .int (rw_kindOf N K fi fs number)), (1, .int number), (0, .ref r)]) hx hb dX1_dropMemory_20 rfl hl (by decide) rfl (fun ls hl => ?_)
        refine lv_aload_n hx hb dX1_dropMemory_21 rfl (lv_at hl 2 rfl) ?_
        refine k_get (ci := 2) (T := TX1) (N := 8) (C := RX1) hx hb hts inX1 hown hK hP 0 rfl rfl 2 (by decide) fl23 rfl rfl dX1_dropMemory_22 ?_
        refine lv_iload_n hx hb dX1_dropMemory_25 rfl (lv_at hl 0 rfl) ?_
        refine lv_aload_n hx hb dX1_dropMemory_26 rfl (lv_at hl 2 rfl) ?_
        refine k_get (ci := 2) (T := TX1) (N := 8) (C := RX1) hx hb hts inX1 hown hK hP 0 rfl rfl 2 (by decide) fl23 rfl rfl dX1_dropMemory_27 ?_
        refine lv_iload_n hx hb dX1_dropMemory_30 rfl (lv_at hl 0 rfl) ?_
        refine k_afP (va_runV (rest := [.int (rw_kindOf N K fi fs number), .ref qk]) ⟨hx, hb, hml, hown, hts⟩ (m_X0_at l dC dI cI cJ qk ak 6 x (rw_kindOf N K fi fs number) (by first | assumption | decide)) (cwV 1 hts gX1_dropMemory_X0_at rfl rfl rfl hdv_X0_at ⟨Nat.le_of_ble_eq_true rfl, Nat.le_of_ble_eq_true rfl⟩) (k_preVP hK hP [5, 6] rfl 5 rfl rfl) rfl rfl hl.1 rfl (lv_room (Nat.le_of_ble_eq_true rfl)) dX1_dropMemory_31 ⟨Nat.le_of_ble_eq_true rfl, Nat.le_of_ble_eq_true rfl⟩) ?_
        refine lv_iconst (v := 1) hx hb dX1_dropMemory_34 (by decide) ?_
        refine lv_isub hx hb dX1_dropMemory_35 ?_
        refine k_afW (wc := [(qk, .inr (1, [.ref ak])), (ak, .inl (cI, 6, .inl x))]) (ws' := [(r, .inr (2, [.ref qi, .ref qs, .ref qk, .ref qt, .int last, .int used, .int lod, .int uod])), (qi, .inr (1, [.ref ai])), (ai, .inl (cI, N, .inl fi)), (qs, .inr (1, [.ref aS])), (aS, .inl (cI, K, .inl fs)), (qk, .inr (1, [.ref ak])), (ak, .inl (cI, 6, .inl (ca_set 6 x (rw_kindOf N K fi fs number) ((ca_at 6 x (rw_kindOf N K fi fs number)) - 1)))), (qt, .inr (1, [.ref aT])), (aT, .inl (cI, 8, .inl ft))]) (va_runV (rest := []) ⟨hx, hb, hml, hown, hts⟩ (m_X0_set l dC dI cI cJ qk ak 6 x (rw_kindOf N K fi fs number) ((ca_at 6 x (rw_kindOf N K fi fs number)) - 1) (by first | assumption | decide)) (cwV 2 hts gX1_dropMemory_X0_set rfl rfl rfl hdv_X0_set ⟨Nat.le_of_ble_eq_true rfl, Nat.le_of_ble_eq_true rfl⟩) (k_preVW hK hP hD [5, 6] rfl rfl 5 rfl rfl) rfl rfl hl.1 rfl (lv_room (Nat.le_of_ble_eq_true rfl)) dX1_dropMemory_36 ⟨Nat.le_of_ble_eq_true rfl, Nat.le_of_ble_eq_true rfl⟩) hP hD hS [5, 6] rfl rfl rfl rfl (fun H locs hP hD hS => ?_)
        refine lv_iinc (v := number + 1) (lv' := [(1, .int (number + 1)), (2, .int (rw_kindOf N K fi fs number)), (0, .ref r)]) hx hb dX1_dropMemory_39 hl (k := 1) rfl rfl (by decide) rfl (fun ls hl => ?_)
        refine lv_goto (tgt := 7) hx hb dX1_dropMemory_42 (by decide) ?_
        exact ih (number + 1) (ca_set 6 x (rw_kindOf N K fi fs number) ((ca_at 6 x (rw_kindOf N K fi fs number)) - 1)) _ _ ls (by rw [loopE_go (k_le1n hlast c1) rfl] at hi; exact hi) (k_meas (k_le1n hlast c1) hm) hP hD hS (lv_sub hl [0, 2] rfl)
  exact loop7 _ (lod + 1) fk _ _ ls rfl (Nat.lt_succ_self _) hP hD hS (lv_sub hl [0, 1] rfl)
set_option maxHeartbeats 4000000 in
set_option maxRecDepth 100000 in
theorem m_X1_clear (l : Launch) (dC : Nat → ClassId) (dI : Nat → Nat → Nat) (cI cJ : ClassId) (r : Nat) (qi : Nat) (ai : Nat) (qs : Nat) (aS : Nat) (qk : Nat) (ak : Nat) (qt : Nat) (aT : Nat) (N : Nat) (K : Nat) (fi : Nat → Int32) (fs : Nat → Int32) (fk : Nat → Int32) (ft : Nat → Int32) (last : Int32) (used : Int32) (lod : Int32) (uod : Int32) (hN : N < 2 ^ 31) (hK9 : K < 2 ^ 31) (hlast : last < 2147483647) : cW l yX1_clear wsX1_clear ({ frames := 3, cells := 0, slots := 0, locals := 64 }) dC dI cI cJ [(r, .inr (2, [.ref qi, .ref qs, .ref qk, .ref qt, .int last, .int used, .int lod, .int uod])), (qi, .inr (1, [.ref ai])), (ai, .inl (cI, N, .inl fi)), (qs, .inr (1, [.ref aS])), (aS, .inl (cI, K, .inl fs)), (qk, .inr (1, [.ref ak])), (ak, .inl (cI, 6, .inl fk)), (qt, .inr (1, [.ref aT])), (aT, .inl (cI, 8, .inl ft))] [(r, .inr (2, [.ref qi, .ref qs, .ref qk, .ref qt, .int 0, .int 0, .int 0, .int 0])), (qi, .inr (1, [.ref ai])), (ai, .inl (cI, N, .inl fi)), (qs, .inr (1, [.ref aS])), (aS, .inl (cI, K, .inl fs)), (qk, .inr (1, [.ref ak])), (ak, .inl (cI, 6, .inl (rw_drop N K fi fs fk last 0))), (qt, .inr (1, [.ref aT])), (aT, .inl (cI, 8, .inl ft))] [r, qi, ai, qs, aS, qk, ak, qt, aT] [.ref r] none := by
  refine Met.ofW (cc := cX1_clear) (maxL := 1) (ret := none) (by decide) rfl ?_
  intro p e s m args below meth c s₁ B hml hv
  obtain ⟨rfl, hP, hK, hD0⟩ := hv
  have hx := B.exec
  have hb := B.bytes
  have hr := B.returns
  have hts := atoms_spec (ws := wsX1_clear) B.pre
  have hown : s.vm.findClass RX1 = some m.cls := findClass_of_methodNamed B.named
  have hlocks := B.notSynchronized
  have inX1 : ∀ w ∈ wsX10, w ∈ wsX1_clear := fun w h => (List.mem_cons_of_mem _ (List.mem_append_left _ (List.mem_append_right _ h)))
  have fl50 := hts (.fieldLink RX1 50 "StockLog$Rows" "usedOnDisk" "I") (by decide +kernel)
  have fl75 := hts (.fieldLink RX1 75 "StockLog$Rows" "lastOnDisk" "I") (by decide +kernel)
  have hD : va_D (mA [r, qi, ai, qs, aS, qk, ak, qt, aT]) [(r, .inr (2, [.ref qi, .ref qs, .ref qk, .ref qt, .int last, .int used, .int lod, .int uod])), (qi, .inr (1, [.ref ai])), (ai, .inl (cI, N, .inl fi)), (qs, .inr (1, [.ref aS])), (aS, .inl (cI, K, .inl fs)), (qk, .inr (1, [.ref ak])), (ak, .inl (cI, 6, .inl fk)), (qt, .inr (1, [.ref aT])), (aT, .inl (cI, 8, .inl ft))] := k_Dw hD0 rfl
  have hS : va_S (mA [r, qi, ai, qs, aS, qk, ak, qt, aT]) s.heap s.heap [] := va_S.rf
  have hl := lv_entry ([.ref r]) (n := 1) (Nat.le_of_ble_eq_true rfl)
  rw [lg_entry_eq]
  generalize (lg_sl ([.ref r]) ++ List.replicate (1 - (lg_sl ([.ref r])).length) Slot.unset).toArray = ls at hl ⊢
  have hl : lv_has ls 1 [(0, .ref r)] := hl
  refine lv_aload_n hx hb dX1_clear_0 rfl (lv_at hl 0 rfl) ?_
  refine lv_iconst (v := 0) hx hb dX1_clear_1 (by decide) ?_
  refine k_putf (ws' := [(r, .inr (2, [.ref qi, .ref qs, .ref qk, .ref qt, .int last, .int used, .int 0, .int uod])), (qi, .inr (1, [.ref ai])), (ai, .inl (cI, N, .inl fi)), (qs, .inr (1, [.ref aS])), (aS, .inl (cI, K, .inl fs)), (qk, .inr (1, [.ref ak])), (ak, .inl (cI, 6, .inl fk)), (qt, .inr (1, [.ref aT])), (aT, .inl (cI, 8, .inl ft))]) (ci := 2) (T := TX1) (N := 8) (C := RX1) (ty := .int) hx hb hts inX1 tyX1 tyX1_ok nmX1 hown hK hP hD hS 0 rfl rfl 6 (by decide) fl75 rfl rfl rfl rfl rfl (Nat.le_of_ble_eq_true rfl) dX1_clear_2 rfl (fun H locs hP hD hS => ?_)
  refine lv_aload_n hx hb dX1_clear_5 rfl (lv_at hl 0 rfl) ?_
  refine lv_iconst (v := 0) hx hb dX1_clear_6 (by decide) ?_
  refine k_putf (ws' := [(r, .inr (2, [.ref qi, .ref qs, .ref qk, .ref qt, .int last, .int used, .int 0, .int 0])), (qi, .inr (1, [.ref ai])), (ai, .inl (cI, N, .inl fi)), (qs, .inr (1, [.ref aS])), (aS, .inl (cI, K, .inl fs)), (qk, .inr (1, [.ref ak])), (ak, .inl (cI, 6, .inl fk)), (qt, .inr (1, [.ref aT])), (aT, .inl (cI, 8, .inl ft))]) (ci := 2) (T := TX1) (N := 8) (C := RX1) (ty := .int) hx hb hts inX1 tyX1 tyX1_ok nmX1 hown hK hP hD hS 0 rfl rfl 7 (by decide) fl50 rfl rfl rfl rfl rfl (Nat.le_of_ble_eq_true rfl) dX1_clear_7 rfl (fun H locs hP hD hS => ?_)
  refine lv_aload_n hx hb dX1_clear_10 rfl (lv_at hl 0 rfl) ?_
  refine k_afW (wc := [(r, .inr (2, [.ref qi, .ref qs, .ref qk, .ref qt, .int last, .int used, .int 0, .int 0])), (qi, .inr (1, [.ref ai])), (ai, .inl (cI, N, .inl fi)), (qs, .inr (1, [.ref aS])), (aS, .inl (cI, K, .inl fs)), (qk, .inr (1, [.ref ak])), (ak, .inl (cI, 6, .inl fk)), (qt, .inr (1, [.ref aT])), (aT, .inl (cI, 8, .inl ft))]) (ws' := [(r, .inr (2, [.ref qi, .ref qs, .ref qk, .ref qt, .int 0, .int 0, .int 0, .int 0])), (qi, .inr (1, [.ref ai])), (ai, .inl (cI, N, .inl fi)), (qs, .inr (1, [.ref aS])), (aS, .inl (cI, K, .inl fs)), (qk, .inr (1, [.ref ak])), (ak, .inl (cI, 6, .inl (rw_drop N K fi fs fk last 0))), (qt, .inr (1, [.ref aT])), (aT, .inl (cI, 8, .inl ft))]) (va_runV (rest := []) ⟨hx, hb, hml, hown, hts⟩ (m_X1_dropMemory l dC dI cI cJ r qi ai qs aS qk ak qt aT N K fi fs fk ft last used 0 0 (by first | assumption | decide) (by first | assumption | decide) (by first | assumption | decide)) (cwV 0 hts gX1_clear_X1_dropMemory rfl rfl rfl hdv_X1_dropMemory ⟨Nat.le_of_ble_eq_true rfl, Nat.le_of_ble_eq_true rfl⟩) (k_preVW hK hP hD [0, 1, 2, 3, 4, 5, 6, 7, 8] rfl rfl 0 rfl rfl) rfl rfl hl.1 rfl (lv_room (Nat.le_of_ble_eq_true rfl)) dX1_clear_11 ⟨Nat.le_of_ble_eq_true rfl, Nat.le_of_ble_eq_true rfl⟩) hP hD hS [0, 1, 2, 3, 4, 5, 6, 7, 8] rfl rfl rfl rfl (fun H locs hP hD hS => ?_)
  exact k_vretW hx hb hr hlocks hP hS rfl dX1_clear_14
set_option maxHeartbeats 4000000 in
set_option maxRecDepth 100000 in
theorem m_X1_fillState (l : Launch) (dC : Nat → ClassId) (dI : Nat → Nat → Nat) (cI cJ : ClassId) (r : Nat) (qi : Nat) (ai : Nat) (qs : Nat) (aS : Nat) (qk : Nat) (ak : Nat) (qt : Nat) (aT : Nat) (N : Nat) (K : Nat) (fi : Nat → Int32) (fs : Nat → Int32) (fk : Nat → Int32) (ft : Nat → Int32) (last : Int32) (used : Int32) (lod : Int32) (uod : Int32) (hN : N < 2 ^ 31) (hK9 : K < 2 ^ 31) : cW l yX1_fillState wsX1_fillState ({ frames := 2, cells := 0, slots := 0, locals := 47 }) dC dI cI cJ [(r, .inr (2, [.ref qi, .ref qs, .ref qk, .ref qt, .int last, .int used, .int lod, .int uod])), (qi, .inr (1, [.ref ai])), (ai, .inl (cI, N, .inl fi)), (qs, .inr (1, [.ref aS])), (aS, .inl (cI, K, .inl fs)), (qk, .inr (1, [.ref ak])), (ak, .inl (cI, 6, .inl fk)), (qt, .inr (1, [.ref aT])), (aT, .inl (cI, 8, .inl ft))] [(r, .inr (2, [.ref qi, .ref qs, .ref qk, .ref qt, .int last, .int used, .int lod, .int uod])), (qi, .inr (1, [.ref ai])), (ai, .inl (cI, N, .inl fi)), (qs, .inr (1, [.ref aS])), (aS, .inl (cI, K, .inl fs)), (qk, .inr (1, [.ref ak])), (ak, .inl (cI, 6, .inl fk)), (qt, .inr (1, [.ref aT])), (aT, .inl (cI, 8, .inl (rw_fill ft fk)))] [r, qi, ai, qs, aS, qk, ak, qt, aT] [.ref r] none := by
  refine Met.ofW (cc := cX1_fillState) (maxL := 2) (ret := none) (by decide) rfl ?_
  intro p e s m args below meth c s₁ B hml hv
  obtain ⟨rfl, hP, hK, hD0⟩ := hv
  have hx := B.exec
  have hb := B.bytes
  have hr := B.returns
  have hts := atoms_spec (ws := wsX1_fillState) B.pre
  have hown : s.vm.findClass RX1 = some m.cls := findClass_of_methodNamed B.named
  have hlocks := B.notSynchronized
  have inX1 : ∀ w ∈ wsX10, w ∈ wsX1_fillState := fun w h => (List.mem_cons_of_mem _ (List.mem_append_left _ (List.mem_append_right _ h)))
  have fl23 := hts (.fieldLink RX1 23 "StockLog$Rows" "ofKind" "LStockLog$Cells;") (by decide +kernel)
  have fl26 := hts (.fieldLink RX1 26 "StockLog$Rows" "state" "LStockLog$Cells;") (by decide +kernel)
  have hD : va_D (mA [r, qi, ai, qs, aS, qk, ak, qt, aT]) [(r, .inr (2, [.ref qi, .ref qs, .ref qk, .ref qt, .int last, .int used, .int lod, .int uod])), (qi, .inr (1, [.ref ai])), (ai, .inl (cI, N, .inl fi)), (qs, .inr (1, [.ref aS])), (aS, .inl (cI, K, .inl fs)), (qk, .inr (1, [.ref ak])), (ak, .inl (cI, 6, .inl fk)), (qt, .inr (1, [.ref aT])), (aT, .inl (cI, 8, .inl ft))] := k_Dw hD0 rfl
  have hS : va_S (mA [r, qi, ai, qs, aS, qk, ak, qt, aT]) s.heap s.heap [] := va_S.rf
  have hl := lv_entry ([.ref r]) (n := 2) (Nat.le_of_ble_eq_true rfl)
  rw [lg_entry_eq]
  generalize (lg_sl ([.ref r]) ++ List.replicate (2 - (lg_sl ([.ref r])).length) Slot.unset).toArray = ls at hl ⊢
  have hl : lv_has ls 2 [(0, .ref r)] := hl
  refine lv_iconst (v := 1) hx hb dX1_fillState_0 (by decide) ?_
  refine lv_istore_n (lv' := [(1, .int 1), (0, .ref r)]) hx hb dX1_fillState_1 rfl hl (by decide) rfl (fun ls hl => ?_)
  have loop2 : ∀ (n : Nat) (kind : Int32) (x : Nat → Int32) (H : Heap) (locs : List Loc) (ls : Array Slot), (loopE 5 (fun kind (x : Nat → Int32) => (.inl (ca_setNum 8 x (2 * (kind - 1)) 2 (ca_at 6 fk kind)) : (Nat → Int32) ⊕ (Nat → Int32))) id kind x = rw_fill ft fk) → ((5 : Int32).toInt - kind.toInt).toNat < n → va_P (dC, dI) vwCl [(r, .inr (2, [.ref qi, .ref qs, .ref qk, .ref qt, .int last, .int used, .int lod, .int uod])), (qi, .inr (1, [.ref ai])), (ai, .inl (cI, N, .inl fi)), (qs, .inr (1, [.ref aS])), (aS, .inl (cI, K, .inl fs)), (qk, .inr (1, [.ref ak])), (ak, .inl (cI, 6, .inl fk)), (qt, .inr (1, [.ref aT])), (aT, .inl (cI, 8, .inl x))] H → va_D (mA [r, qi, ai, qs, aS, qk, ak, qt, aT]) [(r, .inr (2, [.ref qi, .ref qs, .ref qk, .ref qt, .int last, .int used, .int lod, .int uod])), (qi, .inr (1, [.ref ai])), (ai, .inl (cI, N, .inl fi)), (qs, .inr (1, [.ref aS])), (aS, .inl (cI, K, .inl fs)), (qk, .inr (1, [.ref ak])), (ak, .inl (cI, 6, .inl fk)), (qt, .inr (1, [.ref aT])), (aT, .inl (cI, 8, .inl x))] → va_S (mA [r, qi, ai, qs, aS, qk, ak, qt, aT]) s.heap H locs → lv_has ls 2 [(1, .int kind), (0, .ref r)] → W p l e (headSpec wsX1_fillState ({ frames := 2, cells := 0, slots := 0, locals := 47 })).room s m ([.ref r] : List Value).toArray below meth c H locs 0 0 (MQ below (mQ dC dI [(r, .inr (2, [.ref qi, .ref qs, .ref qk, .ref qt, .int last, .int used, .int lod, .int uod])), (qi, .inr (1, [.ref ai])), (ai, .inl (cI, N, .inl fi)), (qs, .inr (1, [.ref aS])), (aS, .inl (cI, K, .inl fs)), (qk, .inr (1, [.ref ak])), (ak, .inl (cI, 6, .inl fk)), (qt, .inr (1, [.ref aT])), (aT, .inl (cI, 8, .inl (rw_fill ft fk)))] [r, qi, ai, qs, aS, qk, ak, qt, aT] none) ([.ref r] : List Value).toArray s 0 0 (mA [r, qi, ai, qs, aS, qk, ak, qt, aT])) (F0 m 2 ls []) := by
    intro n
    induction n with
    | zero => intro kind x H locs ls hi hm; exact absurd hm (Nat.not_lt_zero _)
    | succ n ih =>
      intro kind x H locs ls hi hm hP hD hS hl
      refine lv_iload_n hx hb dX1_fillState_2 rfl (lv_at hl 0 rfl) ?_
      refine lv_iconst (v := 5) hx hb dX1_fillState_3 (by decide) ?_
      refine lv_icmp_ge (tgt := 34) hx hb dX1_fillState_4 (by decide) (fun c1 => ?_) (fun c1 => ?_)
      · exact k_vretW hx hb hr hlocks hP hS (by rw [← hi, loopE_exit c1]; rfl) dX1_fillState_34
      · refine lv_aload_n hx hb dX1_fillState_7 rfl (lv_at hl 1 rfl) ?_
        refine k_get (ci := 2) (T := TX1) (N := 8) (C := RX1) hx hb hts inX1 hown hK hP 0 rfl rfl 3 (by decide) fl26 rfl rfl dX1_fillState_8 ?_
        refine lv_iconst (v := 2) hx hb dX1_fillState_11 (by decide) ?_
        refine lv_iload_n hx hb dX1_fillState_12 rfl (lv_at hl 0 rfl) ?_
        refine lv_iconst (v := 1) hx hb dX1_fillState_13 (by decide) ?_
        refine lv_isub hx hb dX1_fillState_14 ?_
        refine lv_imul hx hb dX1_fillState_15 ?_
        refine lv_iconst (v := 2) hx hb dX1_fillState_16 (by decide) ?_
        refine lv_aload_n hx hb dX1_fillState_17 rfl (lv_at hl 1 rfl) ?_
        refine k_get (ci := 2) (T := TX1) (N := 8) (C := RX1) hx hb hts inX1 hown hK hP 0 rfl rfl 2 (by decide) fl23 rfl rfl dX1_fillState_18 ?_
        refine lv_iload_n hx hb dX1_fillState_21 rfl (lv_at hl 0 rfl) ?_
        refine k_afP (va_runV (rest := [.int 2, .int (2 * (kind - 1)), .ref qt]) ⟨hx, hb, hml, hown, hts⟩ (m_X0_at l dC dI cI cJ qk ak 6 fk kind (by first | assumption | decide)) (cwV 1 hts gX1_fillState_X0_at rfl rfl rfl hdv_X0_at ⟨Nat.le_of_ble_eq_true rfl, Nat.le_of_ble_eq_true rfl⟩) (k_preVP hK hP [5, 6] rfl 5 rfl rfl) rfl rfl hl.1 rfl (lv_room (Nat.le_of_ble_eq_true rfl)) dX1_fillState_22 ⟨Nat.le_of_ble_eq_true rfl, Nat.le_of_ble_eq_true rfl⟩) ?_
        refine k_afW (wc := [(qt, .inr (1, [.ref aT])), (aT, .inl (cI, 8, .inl x))]) (ws' := [(r, .inr (2, [.ref qi, .ref qs, .ref qk, .ref qt, .int last, .int used, .int lod, .int uod])), (qi, .inr (1, [.ref ai])), (ai, .inl (cI, N, .inl fi)), (qs, .inr (1, [.ref aS])), (aS, .inl (cI, K, .inl fs)), (qk, .inr (1, [.ref ak])), (ak, .inl (cI, 6, .inl fk)), (qt, .inr (1, [.ref aT])), (aT, .inl (cI, 8, .inl (ca_setNum 8 x (2 * (kind - 1)) 2 (ca_at 6 fk kind))))]) (va_runV (rest := []) ⟨hx, hb, hml, hown, hts⟩ (m_X0_setNumber l dC dI cI cJ qt aT 8 x (2 * (kind - 1)) 2 (ca_at 6 fk kind) (by first | assumption | decide)) (cwV 3 hts gX1_fillState_X0_setNumber rfl rfl rfl hdv_X0_setNumber ⟨Nat.le_of_ble_eq_true rfl, Nat.le_of_ble_eq_true rfl⟩) (k_preVW hK hP hD [7, 8] rfl rfl 7 rfl rfl) rfl rfl hl.1 rfl (lv_room (Nat.le_of_ble_eq_true rfl)) dX1_fillState_25 ⟨Nat.le_of_ble_eq_true rfl, Nat.le_of_ble_eq_true rfl⟩) hP hD hS [7, 8] rfl rfl rfl rfl (fun H locs hP hD hS => ?_)
        refine lv_iinc (v := kind + 1) (lv' := [(1, .int (kind + 1)), (0, .ref r)]) hx hb dX1_fillState_28 hl (k := 0) rfl rfl (by decide) rfl (fun ls hl => ?_)
        refine lv_goto (tgt := 2) hx hb dX1_fillState_31 (by decide) ?_
        exact ih (kind + 1) (ca_setNum 8 x (2 * (kind - 1)) 2 (ca_at 6 fk kind)) _ _ ls (by rw [loopE_go c1 rfl] at hi; exact hi) (k_meas c1 hm) hP hD hS (lv_sub hl [0, 1] rfl)
  exact loop2 _ 1 ft _ _ ls rfl (Nat.lt_succ_self _) hP hD hS (lv_sub hl [0, 1] rfl)
set_option maxHeartbeats 4000000 in
set_option maxRecDepth 100000 in
theorem m_X1_isState (l : Launch) (dC : Nat → ClassId) (dI : Nat → Nat → Nat) (cI cJ : ClassId) (r : Nat) (qi : Nat) (ai : Nat) (qs : Nat) (aS : Nat) (qk : Nat) (ak : Nat) (qt : Nat) (aT : Nat) (N : Nat) (K : Nat) (fi : Nat → Int32) (fs : Nat → Int32) (fk : Nat → Int32) (ft : Nat → Int32) (last : Int32) (used : Int32) (lod : Int32) (uod : Int32) (hb9 : Nat) (ab : Nat) (M : Nat) (g : Nat → Int32) (place : Int32) (length : Int32) (hN : N < 2 ^ 31) (hK9 : K < 2 ^ 31) (hM : M < 2 ^ 31) : cP l yX1_isState wsX1_isState ({ frames := 2, cells := 0, slots := 0, locals := 45 }) dC dI cI cJ [(r, .inr (2, [.ref qi, .ref qs, .ref qk, .ref qt, .int last, .int used, .int lod, .int uod])), (qi, .inr (1, [.ref ai])), (ai, .inl (cI, N, .inl fi)), (qs, .inr (1, [.ref aS])), (aS, .inl (cI, K, .inl fs)), (qk, .inr (1, [.ref ak])), (ak, .inl (cI, 6, .inl fk)), (qt, .inr (1, [.ref aT])), (aT, .inl (cI, 8, .inl ft)), (hb9, .inr (1, [.ref ab])), (ab, .inl (cI, M, .inl g))] [.ref r, .ref hb9, .int place, .int length] (rw_isState M g fk place length) := by
  refine Met.ofW (cc := cX1_isState) (maxL := 5) (ret := (some .boolean)) (by decide) rfl ?_
  intro p e s m args below meth c s₁ B hml hv
  obtain ⟨rfl, hP, hK⟩ := hv
  have hx := B.exec
  have hb := B.bytes
  have hr := B.returns
  have hts := atoms_spec (ws := wsX1_isState) B.pre
  have hown : s.vm.findClass RX1 = some m.cls := findClass_of_methodNamed B.named
  have hlocks := B.notSynchronized
  have inX1 : ∀ w ∈ wsX10, w ∈ wsX1_isState := fun w h => (List.mem_cons_of_mem _ (List.mem_append_left _ (List.mem_append_right _ h)))
  have fl23 := hts (.fieldLink RX1 23 "StockLog$Rows" "ofKind" "LStockLog$Cells;") (by decide +kernel)
  have hl := lv_entry ([.ref r, .ref hb9, .int place, .int length]) (n := 5) (Nat.le_of_ble_eq_true rfl)
  rw [lg_entry_eq]
  generalize (lg_sl ([.ref r, .ref hb9, .int place, .int length]) ++ List.replicate (5 - (lg_sl ([.ref r, .ref hb9, .int place, .int length])).length) Slot.unset).toArray = ls at hl ⊢
  have hl : lv_has ls 5 [(0, .ref r), (1, .ref hb9), (2, .int place), (3, .int length)] := hl
  refine lv_iload_n hx hb dX1_isState_0 rfl (lv_at hl 3 rfl) ?_
  refine lv_bipush (v := 8) hx hb dX1_isState_1 (by decide) ?_
  refine lv_icmp_eq (tgt := 8) hx hb dX1_isState_3 (by decide) (fun c1 => ?_) (fun c1 => ?_)
  · refine lv_iconst (v := 1) hx hb dX1_isState_8 (by decide) ?_
    refine lv_istore (lv' := [(4, .int 1), (0, .ref r), (1, .ref hb9), (2, .int place), (3, .int length)]) hx hb dX1_isState_9 hl (by decide) rfl (fun ls hl => ?_)
    have loop11 : ∀ (n : Nat) (kind : Int32) (ls : Array Slot), (loopE 5 (fun kind (_ : Unit) => if ca_num M g (place + (2 * (kind - 1))) 2 = ca_at 6 fk kind then (.inl () : Unit ⊕ Int32) else .inr 0) (fun _ => 1) kind () = rw_isState M g fk place length) → ((5 : Int32).toInt - kind.toInt).toNat < n → lv_has ls 5 [(4, .int kind), (0, .ref r), (1, .ref hb9), (2, .int place), (3, .int length)] → W p l e (headSpec wsX1_isState ({ frames := 2, cells := 0, slots := 0, locals := 45 })).room s m ([.ref r, .ref hb9, .int place, .int length] : List Value).toArray below meth c s.heap [] 0 0 (MQ below (vp_Si (fun x => x = rw_isState M g fk place length)) ([.ref r, .ref hb9, .int place, .int length] : List Value).toArray s 0 0 (fun _ => False)) (F0 m 11 ls []) := by
      intro n
      induction n with
      | zero => intro kind ls hi hm; exact absurd hm (Nat.not_lt_zero _)
      | succ n ih =>
        intro kind ls hi hm hl
        refine lv_iload hx hb dX1_isState_11 (lv_at hl 0 rfl) ?_
        refine lv_iconst (v := 5) hx hb dX1_isState_13 (by decide) ?_
        refine lv_icmp_ge (tgt := 50) hx hb dX1_isState_14 (by decide) (fun c2 => ?_) (fun c2 => ?_)
        · refine lv_iconst (v := 1) hx hb dX1_isState_50 (by decide) ?_
          exact k_zretP (ret := none) hx hb hr hlocks (by rw [← hi, loopE_exit c2]) (Or.inr rfl) rfl dX1_isState_51
        · refine lv_aload_n hx hb dX1_isState_17 rfl (lv_at hl 2 rfl) ?_
          refine lv_iload_n hx hb dX1_isState_18 rfl (lv_at hl 3 rfl) ?_
          refine lv_iconst (v := 2) hx hb dX1_isState_19 (by decide) ?_
          refine lv_iload hx hb dX1_isState_20 (lv_at hl 0 rfl) ?_
          refine lv_iconst (v := 1) hx hb dX1_isState_22 (by decide) ?_
          refine lv_isub hx hb dX1_isState_23 ?_
          refine lv_imul hx hb dX1_isState_24 ?_
          refine lv_iadd hx hb dX1_isState_25 ?_
          refine lv_iconst (v := 2) hx hb dX1_isState_26 (by decide) ?_
          refine k_afP (va_runV (rest := []) ⟨hx, hb, hml, hown, hts⟩ (m_X0_numberAt l dC dI cI cJ hb9 ab M g (place + (2 * (kind - 1))) 2 (by first | assumption | decide)) (cwV 2 hts gX1_isState_X0_numberAt rfl rfl rfl hdv_X0_numberAt ⟨Nat.le_of_ble_eq_true rfl, Nat.le_of_ble_eq_true rfl⟩) (k_preVP hK hP [9, 10] rfl 9 rfl rfl) rfl rfl hl.1 rfl (lv_room (Nat.le_of_ble_eq_true rfl)) dX1_isState_27 ⟨Nat.le_of_ble_eq_true rfl, Nat.le_of_ble_eq_true rfl⟩) ?_
          refine lv_aload_n hx hb dX1_isState_30 rfl (lv_at hl 1 rfl) ?_
          refine k_get (ci := 2) (T := TX1) (N := 8) (C := RX1) hx hb hts inX1 hown hK hP 0 rfl rfl 2 (by decide) fl23 rfl rfl dX1_isState_31 ?_
          refine lv_iload hx hb dX1_isState_34 (lv_at hl 0 rfl) ?_
          refine k_afP (va_runV (rest := [.int (ca_num M g (place + (2 * (kind - 1))) 2)]) ⟨hx, hb, hml, hown, hts⟩ (m_X0_at l dC dI cI cJ qk ak 6 fk kind (by first | assumption | decide)) (cwV 1 hts gX1_isState_X0_at rfl rfl rfl hdv_X0_at ⟨Nat.le_of_ble_eq_true rfl, Nat.le_of_ble_eq_true rfl⟩) (k_preVP hK hP [5, 6] rfl 5 rfl rfl) rfl rfl hl.1 rfl (lv_room (Nat.le_of_ble_eq_true rfl)) dX1_isState_36 ⟨Nat.le_of_ble_eq_true rfl, Nat.le_of_ble_eq_true rfl⟩) ?_
          refine lv_icmp_eq (tgt := 44) hx hb dX1_isState_39 (by decide) (fun c3 => ?_) (fun c3 => ?_)
          · refine lv_iinc (v := kind + 1) (lv' := [(4, .int (kind + 1)), (0, .ref r), (1, .ref hb9), (2, .int place), (3, .int length)]) hx hb dX1_isState_44 hl (k := 0) rfl rfl (by decide) rfl (fun ls hl => ?_)
            refine lv_goto (tgt := 11) hx hb dX1_isState_47 (by decide) ?_
            exact ih (kind + 1) ls (by rw [loopE_go c2 (if_pos c3)] at hi; exact hi) (k_meas c2 hm) (lv_sub hl [0, 1, 2, 3, 4] rfl)
          · refine lv_iconst (v := 0) hx hb dX1_isState_42 (by decide) ?_
            exact k_zretP (ret := none) hx hb hr hlocks (by rw [← hi, loopE_ret c2 (if_neg c3)]) (Or.inl rfl) rfl dX1_isState_43
    exact loop11 _ 1 ls (by simp only [rw_isState, if_pos c1]) (Nat.lt_succ_self _) (lv_sub hl [0, 1, 2, 3, 4] rfl)
  · refine lv_iconst (v := 0) hx hb dX1_isState_6 (by decide) ?_
    exact k_zretP (ret := none) hx hb hr hlocks (by simp only [rw_isState, if_neg c1]) (Or.inl rfl) rfl dX1_isState_7
