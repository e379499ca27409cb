set_option maxHeartbeats 4000000 in
set_option maxRecDepth 100000 in
theorem m_X1_enlistNext (l : Launch) (dC : Nat → ClassId) (dI : Nat → Nat → Nat) (cI cJ : ClassId) (r : Nat) (qi : Nat) (ai : Nat) (qs : Nat) (aS : Nat) (qk : Nat) (ak : Nat) (qt : Nat) (aT : Nat) (N : Nat) (K : Nat) (fi : Nat → Int32) (fs : Nat → Int32) (fk : Nat → Int32) (ft : Nat → Int32) (last : Int32) (used : Int32) (lod : Int32) (uod : Int32) (hN : N < 2 ^ 31) (hK9 : K < 2 ^ 31) : cW l yX1_enlistNext wsX1_enlistNext ({ frames := 2, cells := 0, slots := 0, locals := 42 }) dC dI cI cJ [(r, .inr (2, [.ref qi, .ref qs, .ref qk, .ref qt, .int last, .int used, .int lod, .int uod])), (qi, .inr (1, [.ref ai])), (ai, .inl (cI, N, .inl fi)), (qs, .inr (1, [.ref aS])), (aS, .inl (cI, K, .inl fs)), (qk, .inr (1, [.ref ak])), (ak, .inl (cI, 6, .inl fk)), (qt, .inr (1, [.ref aT])), (aT, .inl (cI, 8, .inl ft))] [(r, .inr (2, [.ref qi, .ref qs, .ref qk, .ref qt, .int (last + 1), .int (rw_enU N K fi fs last used), .int lod, .int uod])), (qi, .inr (1, [.ref ai])), (ai, .inl (cI, N, .inl fi)), (qs, .inr (1, [.ref aS])), (aS, .inl (cI, K, .inl (rw_enS K fs last used))), (qk, .inr (1, [.ref ak])), (ak, .inl (cI, 6, .inl (rw_enK N K fi fs fk last used))), (qt, .inr (1, [.ref aT])), (aT, .inl (cI, 8, .inl ft))] [r, qi, ai, qs, aS, qk, ak, qt, aT] [.ref r] none := by
  refine Met.ofW (cc := cX1_enlistNext) (maxL := 2) (ret := none) (by decide) rfl ?_
  intro p e s m args below meth c s₁ B hml hv
  obtain ⟨rfl, hP, hK, hD0⟩ := hv
  have hx := B.exec
  have hb := B.bytes
  have hr := B.returns
  have hts := atoms_spec (ws := wsX1_enlistNext) B.pre
  have hown : s.vm.findClass RX1 = some m.cls := findClass_of_methodNamed B.named
  have hlocks := B.notSynchronized
  have inX1 : ∀ w ∈ wsX10, w ∈ wsX1_enlistNext := fun w h => (List.mem_cons_of_mem _ (List.mem_append_left _ (List.mem_append_right _ h)))
  have fl20 := hts (.fieldLink RX1 20 "StockLog$Rows" "starts" "LStockLog$Cells;") (by decide +kernel)
  have fl23 := hts (.fieldLink RX1 23 "StockLog$Rows" "ofKind" "LStockLog$Cells;") (by decide +kernel)
  have fl29 := hts (.fieldLink RX1 29 "StockLog$Rows" "last" "I") (by decide +kernel)
  have fl47 := hts (.fieldLink RX1 47 "StockLog$Rows" "used" "I") (by decide +kernel)
  have hD : va_D (mA [r, qi, ai, qs, aS, qk, ak, qt, aT]) [(r, .inr (2, [.ref qi, .ref qs, .ref qk, .ref qt, .int last, .int used, .int lod, .int uod])), (qi, .inr (1, [.ref ai])), (ai, .inl (cI, N, .inl fi)), (qs, .inr (1, [.ref aS])), (aS, .inl (cI, K, .inl fs)), (qk, .inr (1, [.ref ak])), (ak, .inl (cI, 6, .inl fk)), (qt, .inr (1, [.ref aT])), (aT, .inl (cI, 8, .inl ft))] := k_Dw hD0 rfl
  have hS : va_S (mA [r, qi, ai, qs, aS, qk, ak, qt, aT]) s.heap s.heap [] := va_S.rf
  have hl := lv_entry ([.ref r]) (n := 2) (Nat.le_of_ble_eq_true rfl)
  rw [lg_entry_eq]
  generalize (lg_sl ([.ref r]) ++ List.replicate (2 - (lg_sl ([.ref r])).length) Slot.unset).toArray = ls at hl ⊢
  have hl : lv_has ls 2 [(0, .ref r)] := hl
  refine lv_aload_n hx hb dX1_enlistNext_0 rfl (lv_at hl 0 rfl) ?_
  refine lv_dup hx hb dX1_enlistNext_1 rfl ?_
  refine k_get (ci := 2) (T := TX1) (N := 8) (C := RX1) hx hb hts inX1 hown hK hP 0 rfl rfl 4 (by decide) fl29 rfl rfl dX1_enlistNext_2 ?_
  refine lv_iconst (v := 1) hx hb dX1_enlistNext_5 (by decide) ?_
  refine lv_iadd hx hb dX1_enlistNext_6 ?_
  refine k_putf (ws' := [(r, .inr (2, [.ref qi, .ref qs, .ref qk, .ref qt, .int (last + 1), .int used, .int lod, .int uod])), (qi, .inr (1, [.ref ai])), (ai, .inl (cI, N, .inl fi)), (qs, .inr (1, [.ref aS])), (aS, .inl (cI, K, .inl fs)), (qk, .inr (1, [.ref ak])), (ak, .inl (cI, 6, .inl fk)), (qt, .inr (1, [.ref aT])), (aT, .inl (cI, 8, .inl ft))]) (ci := 2) (T := TX1) (N := 8) (C := RX1) (ty := .int) hx hb hts inX1 tyX1 tyX1_ok nmX1 hown hK hP hD hS 0 rfl rfl 4 (by decide) fl29 rfl rfl rfl rfl rfl (Nat.le_of_ble_eq_true rfl) dX1_enlistNext_7 rfl (fun H locs hP hD hS => ?_)
  refine lv_aload_n hx hb dX1_enlistNext_10 rfl (lv_at hl 0 rfl) ?_
  refine k_get (ci := 2) (T := TX1) (N := 8) (C := RX1) hx hb hts inX1 hown hK hP 0 rfl rfl 1 (by decide) fl20 rfl rfl dX1_enlistNext_11 ?_
  refine lv_aload_n hx hb dX1_enlistNext_14 rfl (lv_at hl 0 rfl) ?_
  refine k_get (ci := 2) (T := TX1) (N := 8) (C := RX1) hx hb hts inX1 hown hK hP 0 rfl rfl 4 (by decide) fl29 rfl rfl dX1_enlistNext_15 ?_
  refine lv_aload_n hx hb dX1_enlistNext_18 rfl (lv_at hl 0 rfl) ?_
  refine k_get (ci := 2) (T := TX1) (N := 8) (C := RX1) hx hb hts inX1 hown hK hP 0 rfl rfl 5 (by decide) fl47 rfl rfl dX1_enlistNext_19 ?_
  refine k_afW (wc := [(qs, .inr (1, [.ref aS])), (aS, .inl (cI, K, .inl fs))]) (ws' := [(r, .inr (2, [.ref qi, .ref qs, .ref qk, .ref qt, .int (last + 1), .int used, .int lod, .int uod])), (qi, .inr (1, [.ref ai])), (ai, .inl (cI, N, .inl fi)), (qs, .inr (1, [.ref aS])), (aS, .inl (cI, K, .inl (ca_set K fs (last + 1) used))), (qk, .inr (1, [.ref ak])), (ak, .inl (cI, 6, .inl fk)), (qt, .inr (1, [.ref aT])), (aT, .inl (cI, 8, .inl ft))]) (va_runV (rest := []) ⟨hx, hb, hml, hown, hts⟩ (m_X0_set l dC dI cI cJ qs aS K fs (last + 1) used (by first | assumption | decide)) (cwV 2 hts gX1_enlistNext_X0_set rfl rfl rfl hdv_X0_set ⟨Nat.le_of_ble_eq_true rfl, Nat.le_of_ble_eq_true rfl⟩) (k_preVW hK hP hD [3, 4] rfl rfl 3 rfl rfl) rfl rfl hl.1 rfl (lv_room (Nat.le_of_ble_eq_true rfl)) dX1_enlistNext_22 ⟨Nat.le_of_ble_eq_true rfl, Nat.le_of_ble_eq_true rfl⟩) hP hD hS [3, 4] rfl rfl rfl rfl (fun H locs hP hD hS => ?_)
  refine lv_aload_n hx hb dX1_enlistNext_25 rfl (lv_at hl 0 rfl) ?_
  refine lv_aload_n hx hb dX1_enlistNext_26 rfl (lv_at hl 0 rfl) ?_
  refine k_get (ci := 2) (T := TX1) (N := 8) (C := RX1) hx hb hts inX1 hown hK hP 0 rfl rfl 4 (by decide) fl29 rfl rfl dX1_enlistNext_27 ?_
  refine k_afP (va_runV (rest := []) ⟨hx, hb, hml, hown, hts⟩ (m_X1_kindOf l dC dI cI cJ r qi ai qs aS qk ak qt aT N K fi (ca_set K fs (last + 1) used) fk ft (last + 1) used lod uod (last + 1) (by first | assumption | decide) (by first | assumption | decide)) (cwV 1 hts gX1_enlistNext_X1_kindOf rfl rfl rfl hdv_X1_kindOf ⟨Nat.le_of_ble_eq_true rfl, Nat.le_of_ble_eq_true rfl⟩) (k_preVP hK hP [0, 1, 2, 3, 4, 5, 6, 7, 8] rfl 0 rfl rfl) rfl rfl hl.1 rfl (lv_room (Nat.le_of_ble_eq_true rfl)) dX1_enlistNext_30 ⟨Nat.le_of_ble_eq_true rfl, Nat.le_of_ble_eq_true rfl⟩) ?_
  refine lv_topi (fun v33 ev33 => ?_)
  refine lv_istore_n (lv' := [(1, .int v33), (0, .ref r)]) hx hb dX1_enlistNext_33 rfl hl (by decide) rfl (fun ls hl => ?_)
  refine lv_aload_n hx hb dX1_enlistNext_34 rfl (lv_at hl 1 rfl) ?_
  refine k_get (ci := 2) (T := TX1) (N := 8) (C := RX1) hx hb hts inX1 hown hK hP 0 rfl rfl 2 (by decide) fl23 rfl rfl dX1_enlistNext_35 ?_
  refine lv_iload_n hx hb dX1_enlistNext_38 rfl (lv_at hl 0 rfl) ?_
  refine lv_aload_n hx hb dX1_enlistNext_39 rfl (lv_at hl 1 rfl) ?_
  refine k_get (ci := 2) (T := TX1) (N := 8) (C := RX1) hx hb hts inX1 hown hK hP 0 rfl rfl 2 (by decide) fl23 rfl rfl dX1_enlistNext_40 ?_
  refine lv_iload_n hx hb dX1_enlistNext_43 rfl (lv_at hl 0 rfl) ?_
  refine k_afP (va_runV (rest := [.int v33, .ref qk]) ⟨hx, hb, hml, hown, hts⟩ (m_X0_at l dC dI cI cJ qk ak 6 fk v33 (by first | assumption | decide)) (cwV 1 hts gX1_enlistNext_X0_at rfl rfl rfl hdv_X0_at ⟨Nat.le_of_ble_eq_true rfl, Nat.le_of_ble_eq_true rfl⟩) (k_preVP hK hP [5, 6] rfl 5 rfl rfl) rfl rfl hl.1 rfl (lv_room (Nat.le_of_ble_eq_true rfl)) dX1_enlistNext_44 ⟨Nat.le_of_ble_eq_true rfl, Nat.le_of_ble_eq_true rfl⟩) ?_
  refine lv_iconst (v := 1) hx hb dX1_enlistNext_47 (by decide) ?_
  refine lv_iadd hx hb dX1_enlistNext_48 ?_
  refine k_afW (wc := [(qk, .inr (1, [.ref ak])), (ak, .inl (cI, 6, .inl fk))]) (ws' := [(r, .inr (2, [.ref qi, .ref qs, .ref qk, .ref qt, .int (last + 1), .int used, .int lod, .int uod])), (qi, .inr (1, [.ref ai])), (ai, .inl (cI, N, .inl fi)), (qs, .inr (1, [.ref aS])), (aS, .inl (cI, K, .inl (ca_set K fs (last + 1) used))), (qk, .inr (1, [.ref ak])), (ak, .inl (cI, 6, .inl (ca_set 6 fk v33 ((ca_at 6 fk v33) + 1)))), (qt, .inr (1, [.ref aT])), (aT, .inl (cI, 8, .inl ft))]) (va_runV (rest := []) ⟨hx, hb, hml, hown, hts⟩ (m_X0_set l dC dI cI cJ qk ak 6 fk v33 ((ca_at 6 fk v33) + 1) (by first | assumption | decide)) (cwV 2 hts gX1_enlistNext_X0_set rfl rfl rfl hdv_X0_set ⟨Nat.le_of_ble_eq_true rfl, Nat.le_of_ble_eq_true rfl⟩) (k_preVW hK hP hD [5, 6] rfl rfl 5 rfl rfl) rfl rfl hl.1 rfl (lv_room (Nat.le_of_ble_eq_true rfl)) dX1_enlistNext_49 ⟨Nat.le_of_ble_eq_true rfl, Nat.le_of_ble_eq_true rfl⟩) hP hD hS [5, 6] rfl rfl rfl rfl (fun H locs hP hD hS => ?_)
  refine lv_aload_n hx hb dX1_enlistNext_52 rfl (lv_at hl 1 rfl) ?_
  refine lv_dup hx hb dX1_enlistNext_53 rfl ?_
  refine k_get (ci := 2) (T := TX1) (N := 8) (C := RX1) hx hb hts inX1 hown hK hP 0 rfl rfl 5 (by decide) fl47 rfl rfl dX1_enlistNext_54 ?_
  refine lv_bipush (v := 9) hx hb dX1_enlistNext_57 (by decide) ?_
  refine lv_aload_n hx hb dX1_enlistNext_59 rfl (lv_at hl 1 rfl) ?_
  refine lv_aload_n hx hb dX1_enlistNext_60 rfl (lv_at hl 1 rfl) ?_
  refine k_get (ci := 2) (T := TX1) (N := 8) (C := RX1) hx hb hts inX1 hown hK hP 0 rfl rfl 4 (by decide) fl29 rfl rfl dX1_enlistNext_61 ?_
  refine k_afP (va_runV (rest := [.int 9, .int used, .ref r]) ⟨hx, hb, hml, hown, hts⟩ (m_X1_lengthOf l dC dI cI cJ r qi ai qs aS qk ak qt aT N K fi (ca_set K fs (last + 1) used) (ca_set 6 fk v33 ((ca_at 6 fk v33) + 1)) ft (last + 1) used lod uod (last + 1) (by first | assumption | decide) (by first | assumption | decide)) (cwV 1 hts gX1_enlistNext_X1_lengthOf rfl rfl rfl hdv_X1_lengthOf ⟨Nat.le_of_ble_eq_true rfl, Nat.le_of_ble_eq_true rfl⟩) (k_preVP hK hP [0, 1, 2, 3, 4, 5, 6, 7, 8] rfl 0 rfl rfl) rfl rfl hl.1 rfl (lv_room (Nat.le_of_ble_eq_true rfl)) dX1_enlistNext_64 ⟨Nat.le_of_ble_eq_true rfl, Nat.le_of_ble_eq_true rfl⟩) ?_
  refine lv_iadd hx hb dX1_enlistNext_67 ?_
  refine lv_iadd hx hb dX1_enlistNext_68 ?_
  refine lv_topi (fun w69_0 ew69_0 => ?_)
  refine k_putf (ws' := [(r, .inr (2, [.ref qi, .ref qs, .ref qk, .ref qt, .int (last + 1), .int w69_0, .int lod, .int uod])), (qi, .inr (1, [.ref ai])), (ai, .inl (cI, N, .inl fi)), (qs, .inr (1, [.ref aS])), (aS, .inl (cI, K, .inl (ca_set K fs (last + 1) used))), (qk, .inr (1, [.ref ak])), (ak, .inl (cI, 6, .inl (ca_set 6 fk v33 ((ca_at 6 fk v33) + 1)))), (qt, .inr (1, [.ref aT])), (aT, .inl (cI, 8, .inl ft))]) (ci := 2) (T := TX1) (N := 8) (C := RX1) (ty := .int) hx hb hts inX1 tyX1 tyX1_ok nmX1 hown hK hP hD hS 0 rfl rfl 5 (by decide) fl47 rfl rfl rfl rfl rfl (Nat.le_of_ble_eq_true rfl) dX1_enlistNext_69 rfl (fun H locs hP hD hS => ?_)
  exact k_vretW hx hb hr hlocks hP hS (by rw [ev33]; rw [ew69_0]; rfl) dX1_enlistNext_72
set_option maxHeartbeats 4000000 in
set_option maxRecDepth 100000 in
theorem m_X1_write (l : Launch) (dC : Nat → ClassId) (dI : Nat → Nat → Nat) (cI cJ : ClassId) (r : Nat) (qi : Nat) (ai : Nat) (qs : Nat) (aS : Nat) (qk : Nat) (ak : Nat) (qt : Nat) (aT : Nat) (N : Nat) (K : Nat) (fi : Nat → Int32) (fs : Nat → Int32) (fk : Nat → Int32) (ft : Nat → Int32) (last : Int32) (used : Int32) (lod : Int32) (uod : Int32) (hb9 : Nat) (ab : Nat) (M : Nat) (g : Nat → Int32) (kind : Int32) (length : Int32) (hN : N < 2 ^ 31) (hK9 : K < 2 ^ 31) (hM : M < 2 ^ 31) : cW l yX1_write wsX1_write ({ frames := 3, cells := 0, slots := 0, locals := 63 }) dC dI cI cJ [(r, .inr (2, [.ref qi, .ref qs, .ref qk, .ref qt, .int last, .int used, .int lod, .int uod])), (qi, .inr (1, [.ref ai])), (ai, .inl (cI, N, .inl fi)), (qs, .inr (1, [.ref aS])), (aS, .inl (cI, K, .inl fs)), (qk, .inr (1, [.ref ak])), (ak, .inl (cI, 6, .inl fk)), (qt, .inr (1, [.ref aT])), (aT, .inl (cI, 8, .inl ft)), (hb9, .inr (1, [.ref ab])), (ab, .inl (cI, M, .inl g))] [(r, .inr (2, [.ref qi, .ref qs, .ref qk, .ref qt, .int (last + 1), .int (rw_enU N K (rw_image N fi used last kind length M g) fs last used), .int lod, .int uod])), (qi, .inr (1, [.ref ai])), (ai, .inl (cI, N, .inl (rw_image N fi used last kind length M g))), (qs, .inr (1, [.ref aS])), (aS, .inl (cI, K, .inl (rw_enS K fs last used))), (qk, .inr (1, [.ref ak])), (ak, .inl (cI, 6, .inl (rw_enK N K (rw_image N fi used last kind length M g) fs fk last used))), (qt, .inr (1, [.ref aT])), (aT, .inl (cI, 8, .inl ft)), (hb9, .inr (1, [.ref ab])), (ab, .inl (cI, M, .inl g))] [r, qi, ai, qs, aS, qk, ak, qt, aT, hb9, ab] [.ref r, .int kind, .ref hb9, .int length] (some (.int (last + 1))) := by
  refine Met.ofW (cc := cX1_write) (maxL := 5) (ret := (some .int)) (by decide) rfl ?_
  intro p e s m args below meth c s₁ B hml hv
  obtain ⟨rfl, hP, hK, hD0⟩ := hv
  have hx := B.exec
  have hb := B.bytes
  have hr := B.returns
  have hts := atoms_spec (ws := wsX1_write) B.pre
  have hown : s.vm.findClass RX1 = some m.cls := findClass_of_methodNamed B.named
  have hlocks := B.notSynchronized
  have inX1 : ∀ w ∈ wsX10, w ∈ wsX1_write := fun w h => (List.mem_cons_of_mem _ (List.mem_append_left _ (List.mem_append_right _ h)))
  have fl14 := hts (.fieldLink RX1 14 "StockLog$Rows" "image" "LStockLog$Cells;") (by decide +kernel)
  have fl29 := hts (.fieldLink RX1 29 "StockLog$Rows" "last" "I") (by decide +kernel)
  have fl47 := hts (.fieldLink RX1 47 "StockLog$Rows" "used" "I") (by decide +kernel)
  have hD : va_D (mA [r, qi, ai, qs, aS, qk, ak, qt, aT, hb9, ab]) [(r, .inr (2, [.ref qi, .ref qs, .ref qk, .ref qt, .int last, .int used, .int lod, .int uod])), (qi, .inr (1, [.ref ai])), (ai, .inl (cI, N, .inl fi)), (qs, .inr (1, [.ref aS])), (aS, .inl (cI, K, .inl fs)), (qk, .inr (1, [.ref ak])), (ak, .inl (cI, 6, .inl fk)), (qt, .inr (1, [.ref aT])), (aT, .inl (cI, 8, .inl ft)), (hb9, .inr (1, [.ref ab])), (ab, .inl (cI, M, .inl g))] := k_Dw hD0 rfl
  have hS : va_S (mA [r, qi, ai, qs, aS, qk, ak, qt, aT, hb9, ab]) s.heap s.heap [] := va_S.rf
  have hl := lv_entry ([.ref r, .int kind, .ref hb9, .int length]) (n := 5) (Nat.le_of_ble_eq_true rfl)
  rw [lg_entry_eq]
  generalize (lg_sl ([.ref r, .int kind, .ref hb9, .int length]) ++ List.replicate (5 - (lg_sl ([.ref r, .int kind, .ref hb9, .int length])).length) Slot.unset).toArray = ls at hl ⊢
  have hl : lv_has ls 5 [(0, .ref r), (1, .int kind), (2, .ref hb9), (3, .int length)] := hl
  refine lv_aload_n hx hb dX1_write_0 rfl (lv_at hl 0 rfl) ?_
  refine k_get (ci := 2) (T := TX1) (N := 8) (C := RX1) hx hb hts inX1 hown hK hP 0 rfl rfl 0 (by decide) fl14 rfl rfl dX1_write_1 ?_
  refine lv_aload_n hx hb dX1_write_4 rfl (lv_at hl 0 rfl) ?_
  refine k_get (ci := 2) (T := TX1) (N := 8) (C := RX1) hx hb hts inX1 hown hK hP 0 rfl rfl 5 (by decide) fl47 rfl rfl dX1_write_5 ?_
  refine lv_bipush (v := 90) hx hb dX1_write_8 (by decide) ?_
  refine k_afW (wc := [(qi, .inr (1, [.ref ai])), (ai, .inl (cI, N, .inl fi))]) (ws' := [(r, .inr (2, [.ref qi, .ref qs, .ref qk, .ref qt, .int last, .int used, .int lod, .int uod])), (qi, .inr (1, [.ref ai])), (ai, .inl (cI, N, .inl (ca_set N fi used 90))), (qs, .inr (1, [.ref aS])), (aS, .inl (cI, K, .inl fs)), (qk, .inr (1, [.ref ak])), (ak, .inl (cI, 6, .inl fk)), (qt, .inr (1, [.ref aT])), (aT, .inl (cI, 8, .inl ft)), (hb9, .inr (1, [.ref ab])), (ab, .inl (cI, M, .inl g))]) (va_runV (rest := []) ⟨hx, hb, hml, hown, hts⟩ (m_X0_set l dC dI cI cJ qi ai N fi used 90 (by first | assumption | decide)) (cwV 2 hts gX1_write_X0_set rfl rfl rfl hdv_X0_set ⟨Nat.le_of_ble_eq_true rfl, Nat.le_of_ble_eq_true rfl⟩) (k_preVW hK hP hD [1, 2] rfl rfl 1 rfl rfl) rfl rfl hl.1 rfl (lv_room (Nat.le_of_ble_eq_true rfl)) dX1_write_10 ⟨Nat.le_of_ble_eq_true rfl, Nat.le_of_ble_eq_true rfl⟩) hP hD hS [1, 2] rfl rfl rfl rfl (fun H locs hP hD hS => ?_)
  refine lv_aload_n hx hb dX1_write_13 rfl (lv_at hl 0 rfl) ?_
  refine k_get (ci := 2) (T := TX1) (N := 8) (C := RX1) hx hb hts inX1 hown hK hP 0 rfl rfl 0 (by decide) fl14 rfl rfl dX1_write_14 ?_
  refine lv_aload_n hx hb dX1_write_17 rfl (lv_at hl 0 rfl) ?_
  refine k_get (ci := 2) (T := TX1) (N := 8) (C := RX1) hx hb hts inX1 hown hK hP 0 rfl rfl 5 (by decide) fl47 rfl rfl dX1_write_18 ?_
  refine lv_iconst (v := 1) hx hb dX1_write_21 (by decide) ?_
  refine lv_iadd hx hb dX1_write_22 ?_
  refine lv_iload_n hx hb dX1_write_23 rfl (lv_at hl 1 rfl) ?_
  refine k_afW (wc := [(qi, .inr (1, [.ref ai])), (ai, .inl (cI, N, .inl (ca_set N fi used 90)))]) (ws' := [(r, .inr (2, [.ref qi, .ref qs, .ref qk, .ref qt, .int last, .int used, .int lod, .int uod])), (qi, .inr (1, [.ref ai])), (ai, .inl (cI, N, .inl (ca_set N (ca_set N fi used 90) (used + 1) kind))), (qs, .inr (1, [.ref aS])), (aS, .inl (cI, K, .inl fs)), (qk, .inr (1, [.ref ak])), (ak, .inl (cI, 6, .inl fk)), (qt, .inr (1, [.ref aT])), (aT, .inl (cI, 8, .inl ft)), (hb9, .inr (1, [.ref ab])), (ab, .inl (cI, M, .inl g))]) (va_runV (rest := []) ⟨hx, hb, hml, hown, hts⟩ (m_X0_set l dC dI cI cJ qi ai N (ca_set N fi used 90) (used + 1) kind (by first | assumption | decide)) (cwV 2 hts gX1_write_X0_set rfl rfl rfl hdv_X0_set ⟨Nat.le_of_ble_eq_true rfl, Nat.le_of_ble_eq_true rfl⟩) (k_preVW hK hP hD [1, 2] rfl rfl 1 rfl rfl) rfl rfl hl.1 rfl (lv_room (Nat.le_of_ble_eq_true rfl)) dX1_write_24 ⟨Nat.le_of_ble_eq_true rfl, Nat.le_of_ble_eq_true rfl⟩) hP hD hS [1, 2] rfl rfl rfl rfl (fun H locs hP hD hS => ?_)
  refine lv_aload_n hx hb dX1_write_27 rfl (lv_at hl 0 rfl) ?_
  refine k_get (ci := 2) (T := TX1) (N := 8) (C := RX1) hx hb hts inX1 hown hK hP 0 rfl rfl 0 (by decide) fl14 rfl rfl dX1_write_28 ?_
  refine lv_aload_n hx hb dX1_write_31 rfl (lv_at hl 0 rfl) ?_
  refine k_get (ci := 2) (T := TX1) (N := 8) (C := RX1) hx hb hts inX1 hown hK hP 0 rfl rfl 5 (by decide) fl47 rfl rfl dX1_write_32 ?_
  refine lv_iconst (v := 2) hx hb dX1_write_35 (by decide) ?_
  refine lv_iadd hx hb dX1_write_36 ?_
  refine lv_iconst (v := 2) hx hb dX1_write_37 (by decide) ?_
  refine lv_aload_n hx hb dX1_write_38 rfl (lv_at hl 0 rfl) ?_
  refine k_get (ci := 2) (T := TX1) (N := 8) (C := RX1) hx hb hts inX1 hown hK hP 0 rfl rfl 4 (by decide) fl29 rfl rfl dX1_write_39 ?_
  refine lv_iconst (v := 1) hx hb dX1_write_42 (by decide) ?_
  refine lv_iadd hx hb dX1_write_43 ?_
  refine k_afW (wc := [(qi, .inr (1, [.ref ai])), (ai, .inl (cI, N, .inl (ca_set N (ca_set N fi used 90) (used + 1) kind)))]) (ws' := [(r, .inr (2, [.ref qi, .ref qs, .ref qk, .ref qt, .int last, .int used, .int lod, .int uod])), (qi, .inr (1, [.ref ai])), (ai, .inl (cI, N, .inl (ca_setNum N (ca_set N (ca_set N fi used 90) (used + 1) kind) (used + 2) 2 (last + 1)))), (qs, .inr (1, [.ref aS])), (aS, .inl (cI, K, .inl fs)), (qk, .inr (1, [.ref ak])), (ak, .inl (cI, 6, .inl fk)), (qt, .inr (1, [.ref aT])), (aT, .inl (cI, 8, .inl ft)), (hb9, .inr (1, [.ref ab])), (ab, .inl (cI, M, .inl g))]) (va_runV (rest := []) ⟨hx, hb, hml, hown, hts⟩ (m_X0_setNumber l dC dI cI cJ qi ai N (ca_set N (ca_set N fi used 90) (used + 1) kind) (used + 2) 2 (last + 1) (by first | assumption | decide)) (cwV 3 hts gX1_write_X0_setNumber rfl rfl rfl hdv_X0_setNumber ⟨Nat.le_of_ble_eq_true rfl, Nat.le_of_ble_eq_true rfl⟩) (k_preVW hK hP hD [1, 2] rfl rfl 1 rfl rfl) rfl rfl hl.1 rfl (lv_room (Nat.le_of_ble_eq_true rfl)) dX1_write_44 ⟨Nat.le_of_ble_eq_true rfl, Nat.le_of_ble_eq_true rfl⟩) hP hD hS [1, 2] rfl rfl rfl rfl (fun H locs hP hD hS => ?_)
  refine lv_aload_n hx hb dX1_write_47 rfl (lv_at hl 0 rfl) ?_
  refine k_get (ci := 2) (T := TX1) (N := 8) (C := RX1) hx hb hts inX1 hown hK hP 0 rfl rfl 0 (by decide) fl14 rfl rfl dX1_write_48 ?_
  refine lv_aload_n hx hb dX1_write_51 rfl (lv_at hl 0 rfl) ?_
  refine k_get (ci := 2) (T := TX1) (N := 8) (C := RX1) hx hb hts inX1 hown hK hP 0 rfl rfl 5 (by decide) fl47 rfl rfl dX1_write_52 ?_
  refine lv_iconst (v := 4) hx hb dX1_write_55 (by decide) ?_
  refine lv_iadd hx hb dX1_write_56 ?_
  refine lv_iload_n hx hb dX1_write_57 rfl (lv_at hl 3 rfl) ?_
  refine k_afW (wc := [(qi, .inr (1, [.ref ai])), (ai, .inl (cI, N, .inl (ca_setNum N (ca_set N (ca_set N fi used 90) (used + 1) kind) (used + 2) 2 (last + 1))))]) (ws' := [(r, .inr (2, [.ref qi, .ref qs, .ref qk, .ref qt, .int last, .int used, .int lod, .int uod])), (qi, .inr (1, [.ref ai])), (ai, .inl (cI, N, .inl (ca_set N (ca_setNum N (ca_set N (ca_set N fi used 90) (used + 1) kind) (used + 2) 2 (last + 1)) (used + 4) length))), (qs, .inr (1, [.ref aS])), (aS, .inl (cI, K, .inl fs)), (qk, .inr (1, [.ref ak])), (ak, .inl (cI, 6, .inl fk)), (qt, .inr (1, [.ref aT])), (aT, .inl (cI, 8, .inl ft)), (hb9, .inr (1, [.ref ab])), (ab, .inl (cI, M, .inl g))]) (va_runV (rest := []) ⟨hx, hb, hml, hown, hts⟩ (m_X0_set l dC dI cI cJ qi ai N (ca_setNum N (ca_set N (ca_set N fi used 90) (used + 1) kind) (used + 2) 2 (last + 1)) (used + 4) length (by first | assumption | decide)) (cwV 2 hts gX1_write_X0_set rfl rfl rfl hdv_X0_set ⟨Nat.le_of_ble_eq_true rfl, Nat.le_of_ble_eq_true rfl⟩) (k_preVW hK hP hD [1, 2] rfl rfl 1 rfl rfl) rfl rfl hl.1 rfl (lv_room (Nat.le_of_ble_eq_true rfl)) dX1_write_58 ⟨Nat.le_of_ble_eq_true rfl, Nat.le_of_ble_eq_true rfl⟩) hP hD hS [1, 2] rfl rfl rfl rfl (fun H locs hP hD hS => ?_)
  refine lv_iconst (v := 0) hx hb dX1_write_61 (by decide) ?_
  refine lv_istore (lv' := [(4, .int 0), (0, .ref r), (1, .int kind), (2, .ref hb9), (3, .int length)]) hx hb dX1_write_62 hl (by decide) rfl (fun ls hl => ?_)
  have loop64 : ∀ (n : Nat) (i : Int32) (x : Nat → Int32) (H : Heap) (locs : List Loc) (ls : Array Slot), (loopE length (fun i (x : Nat → Int32) => (.inl (ca_set N x ((used + 5) + i) (ca_at M g i)) : (Nat → Int32) ⊕ (Nat → Int32))) id i x = rw_body N (rw_img N fi used last kind length) M g used length) → (length.toInt - i.toInt).toNat < n → va_P (dC, dI) vwCl [(r, .inr (2, [.ref qi, .ref qs, .ref qk, .ref qt, .int last, .int used, .int lod, .int uod])), (qi, .inr (1, [.ref ai])), (ai, .inl (cI, N, .inl x)), (qs, .inr (1, [.ref aS])), (aS, .inl (cI, K, .inl fs)), (qk, .inr (1, [.ref ak])), (ak, .inl (cI, 6, .inl fk)), (qt, .inr (1, [.ref aT])), (aT, .inl (cI, 8, .inl ft)), (hb9, .inr (1, [.ref ab])), (ab, .inl (cI, M, .inl g))] H → va_D (mA [r, qi, ai, qs, aS, qk, ak, qt, aT, hb9, ab]) [(r, .inr (2, [.ref qi, .ref qs, .ref qk, .ref qt, .int last, .int used, .int lod, .int uod])), (qi, .inr (1, [.ref ai])), (ai, .inl (cI, N, .inl x)), (qs, .inr (1, [.ref aS])), (aS, .inl (cI, K, .inl fs)), (qk, .inr (1, [.ref ak])), (ak, .inl (cI, 6, .inl fk)), (qt, .inr (1, [.ref aT])), (aT, .inl (cI, 8, .inl ft)), (hb9, .inr (1, [.ref ab])), (ab, .inl (cI, M, .inl g))] → va_S (mA [r, qi, ai, qs, aS, qk, ak, qt, aT, hb9, ab]) s.heap H locs → lv_has ls 5 [(4, .int i), (0, .ref r), (1, .int kind), (2, .ref hb9), (3, .int length)] → W p l e (headSpec wsX1_write ({ frames := 3, cells := 0, slots := 0, locals := 63 })).room s m ([.ref r, .int kind, .ref hb9, .int length] : List Value).toArray below meth c H locs 0 0 (MQ below (mQ dC dI [(r, .inr (2, [.ref qi, .ref qs, .ref qk, .ref qt, .int (last + 1), .int (rw_enU N K (rw_image N fi used last kind length M g) fs last used), .int lod, .int uod])), (qi, .inr (1, [.ref ai])), (ai, .inl (cI, N, .inl (rw_image N fi used last kind length M g))), (qs, .inr (1, [.ref aS])), (aS, .inl (cI, K, .inl (rw_enS K fs last used))), (qk, .inr (1, [.ref ak])), (ak, .inl (cI, 6, .inl (rw_enK N K (rw_image N fi used last kind length M g) fs fk last used))), (qt, .inr (1, [.ref aT])), (aT, .inl (cI, 8, .inl ft)), (hb9, .inr (1, [.ref ab])), (ab, .inl (cI, M, .inl g))] [r, qi, ai, qs, aS, qk, ak, qt, aT, hb9, ab] (some (.int (last + 1)))) ([.ref r, .int kind, .ref hb9, .int length] : List Value).toArray s 0 0 (mA [r, qi, ai, qs, aS, qk, ak, qt, aT, hb9, ab])) (F0 m 64 ls []) := by
    intro n
    induction n with
    | zero => intro i x H locs ls hi hm; exact absurd hm (Nat.not_lt_zero _)
    | succ n ih =>
      intro i x H locs ls hi hm hP hD hS hl
      refine lv_iload hx hb dX1_write_64 (lv_at hl 0 rfl) ?_
      refine lv_iload_n hx hb dX1_write_66 rfl (lv_at hl 4 rfl) ?_
      refine lv_icmp_ge (tgt := 98) hx hb dX1_write_67 (by decide) (fun c1 => ?_) (fun c1 => ?_)
      · refine lv_aload_n hx hb dX1_write_98 rfl (lv_at hl 1 rfl) ?_
        refine k_get (ci := 2) (T := TX1) (N := 8) (C := RX1) hx hb hts inX1 hown hK hP 0 rfl rfl 0 (by decide) fl14 rfl rfl dX1_write_99 ?_
        refine lv_aload_n hx hb dX1_write_102 rfl (lv_at hl 1 rfl) ?_
        refine k_get (ci := 2) (T := TX1) (N := 8) (C := RX1) hx hb hts inX1 hown hK hP 0 rfl rfl 5 (by decide) fl47 rfl rfl dX1_write_103 ?_
        refine lv_iconst (v := 5) hx hb dX1_write_106 (by decide) ?_
        refine lv_iadd hx hb dX1_write_107 ?_
        refine lv_iload_n hx hb dX1_write_108 rfl (lv_at hl 4 rfl) ?_
        refine lv_iadd hx hb dX1_write_109 ?_
        refine lv_iconst (v := 4) hx hb dX1_write_110 (by decide) ?_
        refine lv_aload_n hx hb dX1_write_111 rfl (lv_at hl 1 rfl) ?_
        refine k_get (ci := 2) (T := TX1) (N := 8) (C := RX1) hx hb hts inX1 hown hK hP 0 rfl rfl 0 (by decide) fl14 rfl rfl dX1_write_112 ?_
        refine lv_aload_n hx hb dX1_write_115 rfl (lv_at hl 1 rfl) ?_
        refine k_get (ci := 2) (T := TX1) (N := 8) (C := RX1) hx hb hts inX1 hown hK hP 0 rfl rfl 5 (by decide) fl47 rfl rfl dX1_write_116 ?_
        refine lv_iload_n hx hb dX1_write_119 rfl (lv_at hl 4 rfl) ?_
        refine k_afP (va_runSN (host := "StockLog") (rest := [.int 4, .int ((used + 5) + length), .ref qi]) ⟨hx, hb, hml, hown, hts⟩ (m_X2_sumOfRow l dC dI cI cJ qi ai N x used length (by first | assumption | decide)) ⟨va_cnB 3 hts ggX1_write_X2_sumOfRow rfl rfl rfl (hK.2.2 (RX1, 61, yX2_sumOfRow, "StockLog") (by decide +kernel)) (hts (.initialized RX2) (by decide +kernel)) hdn_X2_sumOfRow ⟨Nat.le_of_ble_eq_true rfl, Nat.le_of_ble_eq_true rfl⟩, hts (.static yX2_sumOfRow) (by decide +kernel), trivial⟩ (k_preSP hK hP [1, 2] rfl) rfl rfl hl.1 rfl (lv_room (Nat.le_of_ble_eq_true rfl)) dX1_write_120 ⟨Nat.le_of_ble_eq_true rfl, Nat.le_of_ble_eq_true rfl⟩) ?_
        refine k_afW (wc := [(qi, .inr (1, [.ref ai])), (ai, .inl (cI, N, .inl x))]) (ws' := [(r, .inr (2, [.ref qi, .ref qs, .ref qk, .ref qt, .int last, .int used, .int lod, .int uod])), (qi, .inr (1, [.ref ai])), (ai, .inl (cI, N, .inl (ca_setNum N x ((used + 5) + length) 4 (sl_sum N x used length)))), (qs, .inr (1, [.ref aS])), (aS, .inl (cI, K, .inl fs)), (qk, .inr (1, [.ref ak])), (ak, .inl (cI, 6, .inl fk)), (qt, .inr (1, [.ref aT])), (aT, .inl (cI, 8, .inl ft)), (hb9, .inr (1, [.ref ab])), (ab, .inl (cI, M, .inl g))]) (va_runV (rest := []) ⟨hx, hb, hml, hown, hts⟩ (m_X0_setNumber l dC dI cI cJ qi ai N x ((used + 5) + length) 4 (sl_sum N x used length) (by first | assumption | decide)) (cwV 3 hts gX1_write_X0_setNumber rfl rfl rfl hdv_X0_setNumber ⟨Nat.le_of_ble_eq_true rfl, Nat.le_of_ble_eq_true rfl⟩) (k_preVW hK hP hD [1, 2] rfl rfl 1 rfl rfl) rfl rfl hl.1 rfl (lv_room (Nat.le_of_ble_eq_true rfl)) dX1_write_123 ⟨Nat.le_of_ble_eq_true rfl, Nat.le_of_ble_eq_true rfl⟩) hP hD hS [1, 2] rfl rfl rfl rfl (fun H locs hP hD hS => ?_)
        refine lv_aload_n hx hb dX1_write_126 rfl (lv_at hl 1 rfl) ?_
        refine k_afW (wc := [(r, .inr (2, [.ref qi, .ref qs, .ref qk, .ref qt, .int last, .int used, .int lod, .int uod])), (qi, .inr (1, [.ref ai])), (ai, .inl (cI, N, .inl (ca_setNum N x ((used + 5) + length) 4 (sl_sum N x used length)))), (qs, .inr (1, [.ref aS])), (aS, .inl (cI, K, .inl fs)), (qk, .inr (1, [.ref ak])), (ak, .inl (cI, 6, .inl fk)), (qt, .inr (1, [.ref aT])), (aT, .inl (cI, 8, .inl ft))]) (ws' := [(r, .inr (2, [.ref qi, .ref qs, .ref qk, .ref qt, .int (last + 1), .int (rw_enU N K (ca_setNum N x ((used + 5) + length) 4 (sl_sum N x used length)) fs last used), .int lod, .int uod])), (qi, .inr (1, [.ref ai])), (ai, .inl (cI, N, .inl (ca_setNum N x ((used + 5) + length) 4 (sl_sum N x used length)))), (qs, .inr (1, [.ref aS])), (aS, .inl (cI, K, .inl (rw_enS K fs last used))), (qk, .inr (1, [.ref ak])), (ak, .inl (cI, 6, .inl (rw_enK N K (ca_setNum N x ((used + 5) + length) 4 (sl_sum N x used length)) fs fk last used))), (qt, .inr (1, [.ref aT])), (aT, .inl (cI, 8, .inl ft)), (hb9, .inr (1, [.ref ab])), (ab, .inl (cI, M, .inl g))]) (va_runV (rest := []) ⟨hx, hb, hml, hown, hts⟩ (m_X1_enlistNext l dC dI cI cJ r qi ai qs aS qk ak qt aT N K (ca_setNum N x ((used + 5) + length) 4 (sl_sum N x used length)) fs fk ft last used lod uod (by first | assumption | decide) (by first | assumption | decide)) (cwV 0 hts gX1_write_X1_enlistNext rfl rfl rfl hdv_X1_enlistNext ⟨Nat.le_of_ble_eq_true rfl, Nat.le_of_ble_eq_true rfl⟩) (k_preVW hK hP hD [0, 1, 2, 3, 4, 5, 6, 7, 8] rfl rfl 0 rfl rfl) rfl rfl hl.1 rfl (lv_room (Nat.le_of_ble_eq_true rfl)) dX1_write_127 ⟨Nat.le_of_ble_eq_true rfl, Nat.le_of_ble_eq_true rfl⟩) hP hD hS [0, 1, 2, 3, 4, 5, 6, 7, 8] rfl rfl rfl rfl (fun H locs hP hD hS => ?_)
        refine lv_aload_n hx hb dX1_write_130 rfl (lv_at hl 1 rfl) ?_
        refine k_get (ci := 2) (T := TX1) (N := 8) (C := RX1) hx hb hts inX1 hown hK hP 0 rfl rfl 4 (by decide) fl29 rfl rfl dX1_write_131 ?_
        exact k_iretW hx hb hr hlocks hP hS rfl (by have hi2 : x = rw_body N (rw_img N fi used last kind length) M g used length := (by rw [← hi, loopE_exit c1]; rfl); subst hi2; rfl) dX1_write_134
      · refine lv_aload_n hx hb dX1_write_70 rfl (lv_at hl 1 rfl) ?_
        refine k_get (ci := 2) (T := TX1) (N := 8) (C := RX1) hx hb hts inX1 hown hK hP 0 rfl rfl 0 (by decide) fl14 rfl rfl dX1_write_71 ?_
        refine lv_aload_n hx hb dX1_write_74 rfl (lv_at hl 1 rfl) ?_
        refine k_get (ci := 2) (T := TX1) (N := 8) (C := RX1) hx hb hts inX1 hown hK hP 0 rfl rfl 5 (by decide) fl47 rfl rfl dX1_write_75 ?_
        refine lv_iconst (v := 5) hx hb dX1_write_78 (by decide) ?_
        refine lv_iadd hx hb dX1_write_79 ?_
        refine lv_iload hx hb dX1_write_80 (lv_at hl 0 rfl) ?_
        refine lv_iadd hx hb dX1_write_82 ?_
        refine lv_aload_n hx hb dX1_write_83 rfl (lv_at hl 3 rfl) ?_
        refine lv_iload hx hb dX1_write_84 (lv_at hl 0 rfl) ?_
        refine k_afP (va_runV (rest := [.int ((used + 5) + i), .ref qi]) ⟨hx, hb, hml, hown, hts⟩ (m_X0_at l dC dI cI cJ hb9 ab M g i (by first | assumption | decide)) (cwV 1 hts gX1_write_X0_at rfl rfl rfl hdv_X0_at ⟨Nat.le_of_ble_eq_true rfl, Nat.le_of_ble_eq_true rfl⟩) (k_preVP hK hP [9, 10] rfl 9 rfl rfl) rfl rfl hl.1 rfl (lv_room (Nat.le_of_ble_eq_true rfl)) dX1_write_86 ⟨Nat.le_of_ble_eq_true rfl, Nat.le_of_ble_eq_true rfl⟩) ?_
        refine k_afW (wc := [(qi, .inr (1, [.ref ai])), (ai, .inl (cI, N, .inl x))]) (ws' := [(r, .inr (2, [.ref qi, .ref qs, .ref qk, .ref qt, .int last, .int used, .int lod, .int uod])), (qi, .inr (1, [.ref ai])), (ai, .inl (cI, N, .inl (ca_set N x ((used + 5) + i) (ca_at M g i)))), (qs, .inr (1, [.ref aS])), (aS, .inl (cI, K, .inl fs)), (qk, .inr (1, [.ref ak])), (ak, .inl (cI, 6, .inl fk)), (qt, .inr (1, [.ref aT])), (aT, .inl (cI, 8, .inl ft)), (hb9, .inr (1, [.ref ab])), (ab, .inl (cI, M, .inl g))]) (va_runV (rest := []) ⟨hx, hb, hml, hown, hts⟩ (m_X0_set l dC dI cI cJ qi ai N x ((used + 5) + i) (ca_at M g i) (by first | assumption | decide)) (cwV 2 hts gX1_write_X0_set rfl rfl rfl hdv_X0_set ⟨Nat.le_of_ble_eq_true rfl, Nat.le_of_ble_eq_true rfl⟩) (k_preVW hK hP hD [1, 2] rfl rfl 1 rfl rfl) rfl rfl hl.1 rfl (lv_room (Nat.le_of_ble_eq_true rfl)) dX1_write_89 ⟨Nat.le_of_ble_eq_true rfl, Nat.le_of_ble_eq_true rfl⟩) hP hD hS [1, 2] rfl rfl rfl rfl (fun H locs hP hD hS => ?_)
        refine lv_iinc (v := i + 1) (lv' := [(4, .int (i + 1)), (0, .ref r), (1, .int kind), (2, .ref hb9), (3, .int length)]) hx hb dX1_write_92 hl (k := 0) rfl rfl (by decide) rfl (fun ls hl => ?_)
        refine lv_goto (tgt := 64) hx hb dX1_write_95 (by decide) ?_
        exact ih (i + 1) (ca_set N x ((used + 5) + i) (ca_at M g i)) _ _ ls (by rw [loopE_go c1 rfl] at hi; exact hi) (k_meas c1 hm) hP hD hS (lv_sub hl [0, 1, 2, 3, 4] rfl)
  exact loop64 _ 0 (rw_img N fi used last kind length) _ _ ls rfl (Nat.lt_succ_self _) hP hD hS (lv_sub hl [0, 1, 2, 3, 4] rfl)
set_option maxHeartbeats 4000000 in
set_option maxRecDepth 100000 in
theorem m_X1_writeS (l : Launch) (dC : Nat → ClassId) (dI : Nat → Nat → Nat) (cI cJ : ClassId) (r : Nat) (qi : Nat) (ai : Nat) (qs : Nat) (aS : Nat) (qk : Nat) (ak : Nat) (qt : Nat) (aT : Nat) (N : Nat) (K : Nat) (fi : Nat → Int32) (fs : Nat → Int32) (fk : Nat → Int32) (ft : Nat → Int32) (last : Int32) (used : Int32) (lod : Int32) (uod : Int32) (kind : Int32) (length : Int32) (hN : N < 2 ^ 31) (hK9 : K < 2 ^ 31) : cW l yX1_write wsX1_write ({ frames := 3, cells := 0, slots := 0, locals := 63 }) dC dI cI cJ [(r, .inr (2, [.ref qi, .ref qs, .ref qk, .ref qt, .int last, .int used, .int lod, .int uod])), (qi, .inr (1, [.ref ai])), (ai, .inl (cI, N, .inl fi)), (qs, .inr (1, [.ref aS])), (aS, .inl (cI, K, .inl fs)), (qk, .inr (1, [.ref ak])), (ak, .inl (cI, 6, .inl fk)), (qt, .inr (1, [.ref aT])), (aT, .inl (cI, 8, .inl ft))] [(r, .inr (2, [.ref qi, .ref qs, .ref qk, .ref qt, .int (last + 1), .int (rw_enU N K (rw_image N fi used last kind length 8 ft) fs last used), .int lod, .int uod])), (qi, .inr (1, [.ref ai])), (ai, .inl (cI, N, .inl (rw_image N fi used last kind length 8 ft))), (qs, .inr (1, [.ref aS])), (aS, .inl (cI, K, .inl (rw_enS K fs last used))), (qk, .inr (1, [.ref ak])), (ak, .inl (cI, 6, .inl (rw_enK N K (rw_image N fi used last kind length 8 ft) fs fk last used))), (qt, .inr (1, [.ref aT])), (aT, .inl (cI, 8, .inl ft))] [r, qi, ai, qs, aS, qk, ak, qt, aT] [.ref r, .int kind, .ref qt, .int length] (some (.int (last + 1))) := by
  refine Met.ofW (cc := cX1_write) (maxL := 5) (ret := (some .int)) (by decide) rfl ?_
  intro p e s m args below meth c s₁ B hml hv
  obtain ⟨rfl, hP, hK, hD0⟩ := hv
  have hx := B.exec
  have hb := B.bytes
  have hr := B.returns
  have hts := atoms_spec (ws := wsX1_write) B.pre
  have hown : s.vm.findClass RX1 = some m.cls := findClass_of_methodNamed B.named
  have hlocks := B.notSynchronized
  have inX1 : ∀ w ∈ wsX10, w ∈ wsX1_write := fun w h => (List.mem_cons_of_mem _ (List.mem_append_left _ (List.mem_append_right _ h)))
  have fl14 := hts (.fieldLink RX1 14 "StockLog$Rows" "image" "LStockLog$Cells;") (by decide +kernel)
  have fl29 := hts (.fieldLink RX1 29 "StockLog$Rows" "last" "I") (by decide +kernel)
  have fl47 := hts (.fieldLink RX1 47 "StockLog$Rows" "used" "I") (by decide +kernel)
  have hD : va_D (mA [r, qi, ai, qs, aS, qk, ak, qt, aT]) [(r, .inr (2, [.ref qi, .ref qs, .ref qk, .ref qt, .int last, .int used, .int lod, .int uod])), (qi, .inr (1, [.ref ai])), (ai, .inl (cI, N, .inl fi)), (qs, .inr (1, [.ref aS])), (aS, .inl (cI, K, .inl fs)), (qk, .inr (1, [.ref ak])), (ak, .inl (cI, 6, .inl fk)), (qt, .inr (1, [.ref aT])), (aT, .inl (cI, 8, .inl ft))] := k_Dw hD0 rfl
  have hS : va_S (mA [r, qi, ai, qs, aS, qk, ak, qt, aT]) s.heap s.heap [] := va_S.rf
  have hl := lv_entry ([.ref r, .int kind, .ref qt, .int length]) (n := 5) (Nat.le_of_ble_eq_true rfl)
  rw [lg_entry_eq]
  generalize (lg_sl ([.ref r, .int kind, .ref qt, .int length]) ++ List.replicate (5 - (lg_sl ([.ref r, .int kind, .ref qt, .int length])).length) Slot.unset).toArray = ls at hl ⊢
  have hl : lv_has ls 5 [(0, .ref r), (1, .int kind), (2, .ref qt), (3, .int length)] := hl
  refine lv_aload_n hx hb dX1_write_0 rfl (lv_at hl 0 rfl) ?_
  refine k_get (ci := 2) (T := TX1) (N := 8) (C := RX1) hx hb hts inX1 hown hK hP 0 rfl rfl 0 (by decide) fl14 rfl rfl dX1_write_1 ?_
  refine lv_aload_n hx hb dX1_write_4 rfl (lv_at hl 0 rfl) ?_
  refine k_get (ci := 2) (T := TX1) (N := 8) (C := RX1) hx hb hts inX1 hown hK hP 0 rfl rfl 5 (by decide) fl47 rfl rfl dX1_write_5 ?_
  refine lv_bipush (v := 90) hx hb dX1_write_8 (by decide) ?_
  refine k_afW (wc := [(qi, .inr (1, [.ref ai])), (ai, .inl (cI, N, .inl fi))]) (ws' := [(r, .inr (2, [.ref qi, .ref qs, .ref qk, .ref qt, .int last, .int used, .int lod, .int uod])), (qi, .inr (1, [.ref ai])), (ai, .inl (cI, N, .inl (ca_set N fi used 90))), (qs, .inr (1, [.ref aS])), (aS, .inl (cI, K, .inl fs)), (qk, .inr (1, [.ref ak])), (ak, .inl (cI, 6, .inl fk)), (qt, .inr (1, [.ref aT])), (aT, .inl (cI, 8, .inl ft))]) (va_runV (rest := []) ⟨hx, hb, hml, hown, hts⟩ (m_X0_set l dC dI cI cJ qi ai N fi used 90 (by first | assumption | decide)) (cwV 2 hts gX1_write_X0_set rfl rfl rfl hdv_X0_set ⟨Nat.le_of_ble_eq_true rfl, Nat.le_of_ble_eq_true rfl⟩) (k_preVW hK hP hD [1, 2] rfl rfl 1 rfl rfl) rfl rfl hl.1 rfl (lv_room (Nat.le_of_ble_eq_true rfl)) dX1_write_10 ⟨Nat.le_of_ble_eq_true rfl, Nat.le_of_ble_eq_true rfl⟩) hP hD hS [1, 2] rfl rfl rfl rfl (fun H locs hP hD hS => ?_)
  refine lv_aload_n hx hb dX1_write_13 rfl (lv_at hl 0 rfl) ?_
  refine k_get (ci := 2) (T := TX1) (N := 8) (C := RX1) hx hb hts inX1 hown hK hP 0 rfl rfl 0 (by decide) fl14 rfl rfl dX1_write_14 ?_
  refine lv_aload_n hx hb dX1_write_17 rfl (lv_at hl 0 rfl) ?_
  refine k_get (ci := 2) (T := TX1) (N := 8) (C := RX1) hx hb hts inX1 hown hK hP 0 rfl rfl 5 (by decide) fl47 rfl rfl dX1_write_18 ?_
  refine lv_iconst (v := 1) hx hb dX1_write_21 (by decide) ?_
  refine lv_iadd hx hb dX1_write_22 ?_
  refine lv_iload_n hx hb dX1_write_23 rfl (lv_at hl 1 rfl) ?_
  refine k_afW (wc := [(qi, .inr (1, [.ref ai])), (ai, .inl (cI, N, .inl (ca_set N fi used 90)))]) (ws' := [(r, .inr (2, [.ref qi, .ref qs, .ref qk, .ref qt, .int last, .int used, .int lod, .int uod])), (qi, .inr (1, [.ref ai])), (ai, .inl (cI, N, .inl (ca_set N (ca_set N fi used 90) (used + 1) kind))), (qs, .inr (1, [.ref aS])), (aS, .inl (cI, K, .inl fs)), (qk, .inr (1, [.ref ak])), (ak, .inl (cI, 6, .inl fk)), (qt, .inr (1, [.ref aT])), (aT, .inl (cI, 8, .inl ft))]) (va_runV (rest := []) ⟨hx, hb, hml, hown, hts⟩ (m_X0_set l dC dI cI cJ qi ai N (ca_set N fi used 90) (used + 1) kind (by first | assumption | decide)) (cwV 2 hts gX1_write_X0_set rfl rfl rfl hdv_X0_set ⟨Nat.le_of_ble_eq_true rfl, Nat.le_of_ble_eq_true rfl⟩) (k_preVW hK hP hD [1, 2] rfl rfl 1 rfl rfl) rfl rfl hl.1 rfl (lv_room (Nat.le_of_ble_eq_true rfl)) dX1_write_24 ⟨Nat.le_of_ble_eq_true rfl, Nat.le_of_ble_eq_true rfl⟩) hP hD hS [1, 2] rfl rfl rfl rfl (fun H locs hP hD hS => ?_)
  refine lv_aload_n hx hb dX1_write_27 rfl (lv_at hl 0 rfl) ?_
  refine k_get (ci := 2) (T := TX1) (N := 8) (C := RX1) hx hb hts inX1 hown hK hP 0 rfl rfl 0 (by decide) fl14 rfl rfl dX1_write_28 ?_
  refine lv_aload_n hx hb dX1_write_31 rfl (lv_at hl 0 rfl) ?_
  refine k_get (ci := 2) (T := TX1) (N := 8) (C := RX1) hx hb hts inX1 hown hK hP 0 rfl rfl 5 (by decide) fl47 rfl rfl dX1_write_32 ?_
  refine lv_iconst (v := 2) hx hb dX1_write_35 (by decide) ?_
  refine lv_iadd hx hb dX1_write_36 ?_
  refine lv_iconst (v := 2) hx hb dX1_write_37 (by decide) ?_
  refine lv_aload_n hx hb dX1_write_38 rfl (lv_at hl 0 rfl) ?_
  refine k_get (ci := 2) (T := TX1) (N := 8) (C := RX1) hx hb hts inX1 hown hK hP 0 rfl rfl 4 (by decide) fl29 rfl rfl dX1_write_39 ?_
  refine lv_iconst (v := 1) hx hb dX1_write_42 (by decide) ?_
  refine lv_iadd hx hb dX1_write_43 ?_
  refine k_afW (wc := [(qi, .inr (1, [.ref ai])), (ai, .inl (cI, N, .inl (ca_set N (ca_set N fi used 90) (used + 1) kind)))]) (ws' := [(r, .inr (2, [.ref qi, .ref qs, .ref qk, .ref qt, .int last, .int used, .int lod, .int uod])), (qi, .inr (1, [.ref ai])), (ai, .inl (cI, N, .inl (ca_setNum N (ca_set N (ca_set N fi used 90) (used + 1) kind) (used + 2) 2 (last + 1)))), (qs, .inr (1, [.ref aS])), (aS, .inl (cI, K, .inl fs)), (qk, .inr (1, [.ref ak])), (ak, .inl (cI, 6, .inl fk)), (qt, .inr (1, [.ref aT])), (aT, .inl (cI, 8, .inl ft))]) (va_runV (rest := []) ⟨hx, hb, hml, hown, hts⟩ (m_X0_setNumber l dC dI cI cJ qi ai N (ca_set N (ca_set N fi used 90) (used + 1) kind) (used + 2) 2 (last + 1) (by first | assumption | decide)) (cwV 3 hts gX1_write_X0_setNumber rfl rfl rfl hdv_X0_setNumber ⟨Nat.le_of_ble_eq_true rfl, Nat.le_of_ble_eq_true rfl⟩) (k_preVW hK hP hD [1, 2] rfl rfl 1 rfl rfl) rfl rfl hl.1 rfl (lv_room (Nat.le_of_ble_eq_true rfl)) dX1_write_44 ⟨Nat.le_of_ble_eq_true rfl, Nat.le_of_ble_eq_true rfl⟩) hP hD hS [1, 2] rfl rfl rfl rfl (fun H locs hP hD hS => ?_)
  refine lv_aload_n hx hb dX1_write_47 rfl (lv_at hl 0 rfl) ?_
  refine k_get (ci := 2) (T := TX1) (N := 8) (C := RX1) hx hb hts inX1 hown hK hP 0 rfl rfl 0 (by decide) fl14 rfl rfl dX1_write_48 ?_
  refine lv_aload_n hx hb dX1_write_51 rfl (lv_at hl 0 rfl) ?_
  refine k_get (ci := 2) (T := TX1) (N := 8) (C := RX1) hx hb hts inX1 hown hK hP 0 rfl rfl 5 (by decide) fl47 rfl rfl dX1_write_52 ?_
  refine lv_iconst (v := 4) hx hb dX1_write_55 (by decide) ?_
  refine lv_iadd hx hb dX1_write_56 ?_
  refine lv_iload_n hx hb dX1_write_57 rfl (lv_at hl 3 rfl) ?_
  refine k_afW (wc := [(qi, .inr (1, [.ref ai])), (ai, .inl (cI, N, .inl (ca_setNum N (ca_set N (ca_set N fi used 90) (used + 1) kind) (used + 2) 2 (last + 1))))]) (ws' := [(r, .inr (2, [.ref qi, .ref qs, .ref qk, .ref qt, .int last, .int used, .int lod, .int uod])), (qi, .inr (1, [.ref ai])), (ai, .inl (cI, N, .inl (ca_set N (ca_setNum N (ca_set N (ca_set N fi used 90) (used + 1) kind) (used + 2) 2 (last + 1)) (used + 4) length))), (qs, .inr (1, [.ref aS])), (aS, .inl (cI, K, .inl fs)), (qk, .inr (1, [.ref ak])), (ak, .inl (cI, 6, .inl fk)), (qt, .inr (1, [.ref aT])), (aT, .inl (cI, 8, .inl ft))]) (va_runV (rest := []) ⟨hx, hb, hml, hown, hts⟩ (m_X0_set l dC dI cI cJ qi ai N (ca_setNum N (ca_set N (ca_set N fi used 90) (used + 1) kind) (used + 2) 2 (last + 1)) (used + 4) length (by first | assumption | decide)) (cwV 2 hts gX1_write_X0_set rfl rfl rfl hdv_X0_set ⟨Nat.le_of_ble_eq_true rfl, Nat.le_of_ble_eq_true rfl⟩) (k_preVW hK hP hD [1, 2] rfl rfl 1 rfl rfl) rfl rfl hl.1 rfl (lv_room (Nat.le_of_ble_eq_true rfl)) dX1_write_58 ⟨Nat.le_of_ble_eq_true rfl, Nat.le_of_ble_eq_true rfl⟩) hP hD hS [1, 2] rfl rfl rfl rfl (fun H locs hP hD hS => ?_)
  refine lv_iconst (v := 0) hx hb dX1_write_61 (by decide) ?_
  refine lv_istore (lv' := [(4, .int 0), (0, .ref r), (1, .int kind), (2, .ref qt), (3, .int length)]) hx hb dX1_write_62 hl (by decide) rfl (fun ls hl => ?_)
  have loop64 : ∀ (n : Nat) (i : Int32) (x : Nat → Int32) (H : Heap) (locs : List Loc) (ls : Array Slot), (loopE length (fun i (x : Nat → Int32) => (.inl (ca_set N x ((used + 5) + i) (ca_at 8 ft i)) : (Nat → Int32) ⊕ (Nat → Int32))) id i x = rw_body N (rw_img N fi used last kind length) 8 ft used length) → (length.toInt - i.toInt).toNat < n → va_P (dC, dI) vwCl [(r, .inr (2, [.ref qi, .ref qs, .ref qk, .ref qt, .int last, .int used, .int lod, .int uod])), (qi, .inr (1, [.ref ai])), (ai, .inl (cI, N, .inl x)), (qs, .inr (1, [.ref aS])), (aS, .inl (cI, K, .inl fs)), (qk, .inr (1, [.ref ak])), (ak, .inl (cI, 6, .inl fk)), (qt, .inr (1, [.ref aT])), (aT, .inl (cI, 8, .inl ft))] H → va_D (mA [r, qi, ai, qs, aS, qk, ak, qt, aT]) [(r, .inr (2, [.ref qi, .ref qs, .ref qk, .ref qt, .int last, .int used, .int lod, .int uod])), (qi, .inr (1, [.ref ai])), (ai, .inl (cI, N, .inl x)), (qs, .inr (1, [.ref aS])), (aS, .inl (cI, K, .inl fs)), (qk, .inr (1, [.ref ak])), (ak, .inl (cI, 6, .inl fk)), (qt, .inr (1, [.ref aT])), (aT, .inl (cI, 8, .inl ft))] → va_S (mA [r, qi, ai, qs, aS, qk, ak, qt, aT]) s.heap H locs → lv_has ls 5 [(4, .int i), (0, .ref r), (1, .int kind), (2, .ref qt), (3, .int length)] → W p l e (headSpec wsX1_write ({ frames := 3, cells := 0, slots := 0, locals := 63 })).room s m ([.ref r, .int kind, .ref qt, .int length] : List Value).toArray below meth c H locs 0 0 (MQ below (mQ dC dI [(r, .inr (2, [.ref qi, .ref qs, .ref qk, .ref qt, .int (last + 1), .int (rw_enU N K (rw_image N fi used last kind length 8 ft) fs last used), .int lod, .int uod])), (qi, .inr (1, [.ref ai])), (ai, .inl (cI, N, .inl (rw_image N fi used last kind length 8 ft))), (qs, .inr (1, [.ref aS])), (aS, .inl (cI, K, .inl (rw_enS K fs last used))), (qk, .inr (1, [.ref ak])), (ak, .inl (cI, 6, .inl (rw_enK N K (rw_image N fi used last kind length 8 ft) fs fk last used))), (qt, .inr (1, [.ref aT])), (aT, .inl (cI, 8, .inl ft))] [r, qi, ai, qs, aS, qk, ak, qt, aT] (some (.int (last + 1)))) ([.ref r, .int kind, .ref qt, .int length] : List Value).toArray s 0 0 (mA [r, qi, ai, qs, aS, qk, ak, qt, aT])) (F0 m 64 ls []) := by
    intro n
    induction n with
    | zero => intro i x H locs ls hi hm; exact absurd hm (Nat.not_lt_zero _)
    | succ n ih =>
      intro i x H locs ls hi hm hP hD hS hl
      refine lv_iload hx hb dX1_write_64 (lv_at hl 0 rfl) ?_
      refine lv_iload_n hx hb dX1_write_66 rfl (lv_at hl 4 rfl) ?_
      refine lv_icmp_ge (tgt := 98) hx hb dX1_write_67 (by decide) (fun c1 => ?_) (fun c1 => ?_)
      · refine lv_aload_n hx hb dX1_write_98 rfl (lv_at hl 1 rfl) ?_
        refine k_get (ci := 2) (T := TX1) (N := 8) (C := RX1) hx hb hts inX1 hown hK hP 0 rfl rfl 0 (by decide) fl14 rfl rfl dX1_write_99 ?_
        refine lv_aload_n hx hb dX1_write_102 rfl (lv_at hl 1 rfl) ?_
        refine k_get (ci := 2) (T := TX1) (N := 8) (C := RX1) hx hb hts inX1 hown hK hP 0 rfl rfl 5 (by decide) fl47 rfl rfl dX1_write_103 ?_
        refine lv_iconst (v := 5) hx hb dX1_write_106 (by decide) ?_
        refine lv_iadd hx hb dX1_write_107 ?_
        refine lv_iload_n hx hb dX1_write_108 rfl (lv_at hl 4 rfl) ?_
        refine lv_iadd hx hb dX1_write_109 ?_
        refine lv_iconst (v := 4) hx hb dX1_write_110 (by decide) ?_
        refine lv_aload_n hx hb dX1_write_111 rfl (lv_at hl 1 rfl) ?_
        refine k_get (ci := 2) (T := TX1) (N := 8) (C := RX1) hx hb hts inX1 hown hK hP 0 rfl rfl 0 (by decide) fl14 rfl rfl dX1_write_112 ?_
        refine lv_aload_n hx hb dX1_write_115 rfl (lv_at hl 1 rfl) ?_
        refine k_get (ci := 2) (T := TX1) (N := 8) (C := RX1) hx hb hts inX1 hown hK hP 0 rfl rfl 5 (by decide) fl47 rfl rfl dX1_write_116 ?_
        refine lv_iload_n hx hb dX1_write_119 rfl (lv_at hl 4 rfl) ?_
        refine k_afP (va_runSN (host := "StockLog") (rest := [.int 4, .int ((used + 5) + length), .ref qi]) ⟨hx, hb, hml, hown, hts⟩ (m_X2_sumOfRow l dC dI cI cJ qi ai N x used length (by first | assumption | decide)) ⟨va_cnB 3 hts ggX1_write_X2_sumOfRow rfl rfl rfl (hK.2.2 (RX1, 61, yX2_sumOfRow, "StockLog") (by decide +kernel)) (hts (.initialized RX2) (by decide +kernel)) hdn_X2_sumOfRow ⟨Nat.le_of_ble_eq_true rfl, Nat.le_of_ble_eq_true rfl⟩, hts (.static yX2_sumOfRow) (by decide +kernel), trivial⟩ (k_preSP hK hP [1, 2] rfl) rfl rfl hl.1 rfl (lv_room (Nat.le_of_ble_eq_true rfl)) dX1_write_120 ⟨Nat.le_of_ble_eq_true rfl, Nat.le_of_ble_eq_true rfl⟩) ?_
        refine k_afW (wc := [(qi, .inr (1, [.ref ai])), (ai, .inl (cI, N, .inl x))]) (ws' := [(r, .inr (2, [.ref qi, .ref qs, .ref qk, .ref qt, .int last, .int used, .int lod, .int uod])), (qi, .inr (1, [.ref ai])), (ai, .inl (cI, N, .inl (ca_setNum N x ((used + 5) + length) 4 (sl_sum N x used length)))), (qs, .inr (1, [.ref aS])), (aS, .inl (cI, K, .inl fs)), (qk, .inr (1, [.ref ak])), (ak, .inl (cI, 6, .inl fk)), (qt, .inr (1, [.ref aT])), (aT, .inl (cI, 8, .inl ft))]) (va_runV (rest := []) ⟨hx, hb, hml, hown, hts⟩ (m_X0_setNumber l dC dI cI cJ qi ai N x ((used + 5) + length) 4 (sl_sum N x used length) (by first | assumption | decide)) (cwV 3 hts gX1_write_X0_setNumber rfl rfl rfl hdv_X0_setNumber ⟨Nat.le_of_ble_eq_true rfl, Nat.le_of_ble_eq_true rfl⟩) (k_preVW hK hP hD [1, 2] rfl rfl 1 rfl rfl) rfl rfl hl.1 rfl (lv_room (Nat.le_of_ble_eq_true rfl)) dX1_write_123 ⟨Nat.le_of_ble_eq_true rfl, Nat.le_of_ble_eq_true rfl⟩) hP hD hS [1, 2] rfl rfl rfl rfl (fun H locs hP hD hS => ?_)
        refine lv_aload_n hx hb dX1_write_126 rfl (lv_at hl 1 rfl) ?_
        refine k_afW (wc := [(r, .inr (2, [.ref qi, .ref qs, .ref qk, .ref qt, .int last, .int used, .int lod, .int uod])), (qi, .inr (1, [.ref ai])), (ai, .inl (cI, N, .inl (ca_setNum N x ((used + 5) + length) 4 (sl_sum N x used length)))), (qs, .inr (1, [.ref aS])), (aS, .inl (cI, K, .inl fs)), (qk, .inr (1, [.ref ak])), (ak, .inl (cI, 6, .inl fk)), (qt, .inr (1, [.ref aT])), (aT, .inl (cI, 8, .inl ft))]) (ws' := [(r, .inr (2, [.ref qi, .ref qs, .ref qk, .ref qt, .int (last + 1), .int (rw_enU N K (ca_setNum N x ((used + 5) + length) 4 (sl_sum N x used length)) fs last used), .int lod, .int uod])), (qi, .inr (1, [.ref ai])), (ai, .inl (cI, N, .inl (ca_setNum N x ((used + 5) + length) 4 (sl_sum N x used length)))), (qs, .inr (1, [.ref aS])), (aS, .inl (cI, K, .inl (rw_enS K fs last used))), (qk, .inr (1, [.ref ak])), (ak, .inl (cI, 6, .inl (rw_enK N K (ca_setNum N x ((used + 5) + length) 4 (sl_sum N x used length)) fs fk last used))), (qt, .inr (1, [.ref aT])), (aT, .inl (cI, 8, .inl ft))]) (va_runV (rest := []) ⟨hx, hb, hml, hown, hts⟩ (m_X1_enlistNext l dC dI cI cJ r qi ai qs aS qk ak qt aT N K (ca_setNum N x ((used + 5) + length) 4 (sl_sum N x used length)) fs fk ft last used lod uod (by first | assumption | decide) (by first | assumption | decide)) (cwV 0 hts gX1_write_X1_enlistNext rfl rfl rfl hdv_X1_enlistNext ⟨Nat.le_of_ble_eq_true rfl, Nat.le_of_ble_eq_true rfl⟩) (k_preVW hK hP hD [0, 1, 2, 3, 4, 5, 6, 7, 8] rfl rfl 0 rfl rfl) rfl rfl hl.1 rfl (lv_room (Nat.le_of_ble_eq_true rfl)) dX1_write_127 ⟨Nat.le_of_ble_eq_true rfl, Nat.le_of_ble_eq_true rfl⟩) hP hD hS [0, 1, 2, 3, 4, 5, 6, 7, 8] rfl rfl rfl rfl (fun H locs hP hD hS => ?_)
        refine lv_aload_n hx hb dX1_write_130 rfl (lv_at hl 1 rfl) ?_
        refine k_get (ci := 2) (T := TX1) (N := 8) (C := RX1) hx hb hts inX1 hown hK hP 0 rfl rfl 4 (by decide) fl29 rfl rfl dX1_write_131 ?_
        exact k_iretW hx hb hr hlocks hP hS rfl (by have hi2 : x = rw_body N (rw_img N fi used last kind length) 8 ft used length := (by rw [← hi, loopE_exit c1]; rfl); subst hi2; rfl) dX1_write_134
      · refine lv_aload_n hx hb dX1_write_70 rfl (lv_at hl 1 rfl) ?_
        refine k_get (ci := 2) (T := TX1) (N := 8) (C := RX1) hx hb hts inX1 hown hK hP 0 rfl rfl 0 (by decide) fl14 rfl rfl dX1_write_71 ?_
        refine lv_aload_n hx hb dX1_write_74 rfl (lv_at hl 1 rfl) ?_
        refine k_get (ci := 2) (T := TX1) (N := 8) (C := RX1) hx hb hts inX1 hown hK hP 0 rfl rfl 5 (by decide) fl47 rfl rfl dX1_write_75 ?_
        refine lv_iconst (v := 5) hx hb dX1_write_78 (by decide) ?_
        refine lv_iadd hx hb dX1_write_79 ?_
        refine lv_iload hx hb dX1_write_80 (lv_at hl 0 rfl) ?_
        refine lv_iadd hx hb dX1_write_82 ?_
        refine lv_aload_n hx hb dX1_write_83 rfl (lv_at hl 3 rfl) ?_
        refine lv_iload hx hb dX1_write_84 (lv_at hl 0 rfl) ?_
        refine k_afP (va_runV (rest := [.int ((used + 5) + i), .ref qi]) ⟨hx, hb, hml, hown, hts⟩ (m_X0_at l dC dI cI cJ qt aT 8 ft i (by first | assumption | decide)) (cwV 1 hts gX1_write_X0_at rfl rfl rfl hdv_X0_at ⟨Nat.le_of_ble_eq_true rfl, Nat.le_of_ble_eq_true rfl⟩) (k_preVP hK hP [7, 8] rfl 7 rfl rfl) rfl rfl hl.1 rfl (lv_room (Nat.le_of_ble_eq_true rfl)) dX1_write_86 ⟨Nat.le_of_ble_eq_true rfl, Nat.le_of_ble_eq_true rfl⟩) ?_
        refine k_afW (wc := [(qi, .inr (1, [.ref ai])), (ai, .inl (cI, N, .inl x))]) (ws' := [(r, .inr (2, [.ref qi, .ref qs, .ref qk, .ref qt, .int last, .int used, .int lod, .int uod])), (qi, .inr (1, [.ref ai])), (ai, .inl (cI, N, .inl (ca_set N x ((used + 5) + i) (ca_at 8 ft i)))), (qs, .inr (1, [.ref aS])), (aS, .inl (cI, K, .inl fs)), (qk, .inr (1, [.ref ak])), (ak, .inl (cI, 6, .inl fk)), (qt, .inr (1, [.ref aT])), (aT, .inl (cI, 8, .inl ft))]) (va_runV (rest := []) ⟨hx, hb, hml, hown, hts⟩ (m_X0_set l dC dI cI cJ qi ai N x ((used + 5) + i) (ca_at 8 ft i) (by first | assumption | decide)) (cwV 2 hts gX1_write_X0_set rfl rfl rfl hdv_X0_set ⟨Nat.le_of_ble_eq_true rfl, Nat.le_of_ble_eq_true rfl⟩) (k_preVW hK hP hD [1, 2] rfl rfl 1 rfl rfl) rfl rfl hl.1 rfl (lv_room (Nat.le_of_ble_eq_true rfl)) dX1_write_89 ⟨Nat.le_of_ble_eq_true rfl, Nat.le_of_ble_eq_true rfl⟩) hP hD hS [1, 2] rfl rfl rfl rfl (fun H locs hP hD hS => ?_)
        refine lv_iinc (v := i + 1) (lv' := [(4, .int (i + 1)), (0, .ref r), (1, .int kind), (2, .ref qt), (3, .int length)]) hx hb dX1_write_92 hl (k := 0) rfl rfl (by decide) rfl (fun ls hl => ?_)
        refine lv_goto (tgt := 64) hx hb dX1_write_95 (by decide) ?_
        exact ih (i + 1) (ca_set N x ((used + 5) + i) (ca_at 8 ft i)) _ _ ls (by rw [loopE_go c1 rfl] at hi; exact hi) (k_meas c1 hm) hP hD hS (lv_sub hl [0, 1, 2, 3, 4] rfl)
  exact loop64 _ 0 (rw_img N fi used last kind length) _ _ ls rfl (Nat.lt_succ_self _) hP hD hS (lv_sub hl [0, 1, 2, 3, 4] rfl)
