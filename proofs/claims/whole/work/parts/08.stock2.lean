set_option maxHeartbeats 4000000 in
set_option maxRecDepth 100000 in
theorem m_X2_poke (l : Launch) (dC : Nat → ClassId) (dI : Nat → Nat → Nat) (cI cJ : ClassId) (o : Nat) (qd : Nat) (ad : Nat) (qe : Nat) (ae : Nat) (qo : Nat) (ao : Nat) (r : Nat) (qi : Nat) (ai : Nat) (qs : Nat) (aS : Nat) (qk : Nat) (ak : Nat) (qt : Nat) (aT : Nat) (N : Nat) (K : Nat) (fd : Nat → Int32) (fe : Nat → Int32) (fo : Nat → Int32) (fi : Nat → Int32) (fs : Nat → Int32) (fk : Nat → Int32) (ft : Nat → Int32) (se : Int32) (tc : Int32) (fb : Int32) (up : Int32) (bk : Int32) (last : Int32) (used : Int32) (lod : Int32) (uod : Int32) (sector : Int32) (i : Int32) (mask : Int32) (hN : N < 2 ^ 31) (hK9 : K < 2 ^ 31) (hst : l.stackTraces = false) : cT l yX2_poke wqX2_poke ({ frames := 8, cells := 1, slots := 6, locals := 117 }) dC dI cI cJ [(o, .inr (3, [.int se, .ref qd, .ref qe, .ref qo, .ref r, .int tc, .int fb, .int up, .int bk])), (qd, .inr (1, [.ref ad])), (ad, .inl (cI, N, .inl fd)), (qe, .inr (1, [.ref ae])), (ae, .inl (cI, N, .inl fe)), (qo, .inr (1, [.ref ao])), (ao, .inl (cI, 20, .inl fo)), (r, .inr (2, [.ref qi, .ref qs, .ref qk, .ref qt, .int last, .int used, .int lod, .int uod])), (qi, .inr (1, [.ref ai])), (ai, .inl (cI, N, .inl fi)), (qs, .inr (1, [.ref aS])), (aS, .inl (cI, K, .inl fs)), (qk, .inr (1, [.ref ak])), (ak, .inl (cI, 6, .inl fk)), (qt, .inr (1, [.ref aT])), (aT, .inl (cI, 8, .inl ft))] [(o, .inr (3, [.int se, .ref qd, .ref qe, .ref qo, .ref r, .int tc, .int fb, .int up, .int bk])), (qd, .inr (1, [.ref ad])), (ad, .inl (cI, N, .inl (ca_set N fd ((sector * 32) + i) ((ca_at N fd ((sector * 32) + i)) ^^^ mask)))), (qe, .inr (1, [.ref ae])), (ae, .inl (cI, N, .inl fe)), (qo, .inr (1, [.ref ao])), (ao, .inl (cI, 20, .inl fo)), (r, .inr (2, [.ref qi, .ref qs, .ref qk, .ref qt, .int last, .int used, .int lod, .int uod])), (qi, .inr (1, [.ref ai])), (ai, .inl (cI, N, .inl fi)), (qs, .inr (1, [.ref aS])), (aS, .inl (cI, K, .inl fs)), (qk, .inr (1, [.ref ak])), (ak, .inl (cI, 6, .inl fk)), (qt, .inr (1, [.ref aT])), (aT, .inl (cI, 8, .inl ft))] [o, qd, ad, qe, ae, qo, ao, r, qi, ai, qs, aS, qk, ak, qt, aT] [.ref o, .int sector, .int i, .int mask] (exPoke se sector i mask) (some (.int (ca_at N (ca_set N fd ((sector * 32) + i) ((ca_at N fd ((sector * 32) + i)) ^^^ mask)) ((sector * 32) + i)))) 1 6 := by
  refine vx_ofW (cc := cX2_poke) (maxL := 5) (ret := (some .int)) (by decide) rfl ?_
  intro p e s m args below meth c s₁ B hml hno hv
  obtain ⟨rfl, hP, hK, hD0, hT, hZ⟩ := hv
  have hx := B.exec
  have hb := B.bytes
  have hr := B.returns
  have hts := atoms_spec (ws := wqX2_poke) B.pre
  have hown : s.vm.findClass RX2 = some m.cls := findClass_of_methodNamed B.named
  have hlocks := B.notSynchronized
  have inX2 : ∀ w ∈ wsX20, w ∈ wqX2_poke := fun w h => (List.mem_append_left _ (List.mem_cons_of_mem _ (List.mem_append_left _ (List.mem_append_left _ (List.mem_append_left _ (List.mem_append_right _ h))))))
  have xkIAE := hts (.classLink RX2 51 xIAE) (by decide +kernel)
  have xiIAE := hts (.initialized xIAE) (by decide +kernel)
  have xhIAE := vx_hat (fun w h => hts w (List.mem_append_left _ (List.mem_cons_of_mem _ (List.mem_append_right _ h)))) xbIAE (fun w h => va_Nw.use (gXW_on w h) (hT.1 w h))
  have fl27 := hts (.fieldLink RX2 27 "StockLog" "disk" "LStockLog$Cells;") (by decide +kernel)
  have hD : va_D (mA [o, qd, ad, qe, ae, qo, ao, r, qi, ai, qs, aS, qk, ak, qt, aT]) [(o, .inr (3, [.int se, .ref qd, .ref qe, .ref qo, .ref r, .int tc, .int fb, .int up, .int bk])), (qd, .inr (1, [.ref ad])), (ad, .inl (cI, N, .inl fd)), (qe, .inr (1, [.ref ae])), (ae, .inl (cI, N, .inl fe)), (qo, .inr (1, [.ref ao])), (ao, .inl (cI, 20, .inl fo)), (r, .inr (2, [.ref qi, .ref qs, .ref qk, .ref qt, .int last, .int used, .int lod, .int uod])), (qi, .inr (1, [.ref ai])), (ai, .inl (cI, N, .inl fi)), (qs, .inr (1, [.ref aS])), (aS, .inl (cI, K, .inl fs)), (qk, .inr (1, [.ref ak])), (ak, .inl (cI, 6, .inl fk)), (qt, .inr (1, [.ref aT])), (aT, .inl (cI, 8, .inl ft))] := k_Dw hD0 rfl
  have hS : va_S (mA [o, qd, ad, qe, ae, qo, ao, r, qi, ai, qs, aS, qk, ak, qt, aT]) s.heap s.heap [] := va_S.rf
  have hl := lv_entry ([.ref o, .int sector, .int i, .int mask]) (n := 5) (Nat.le_of_ble_eq_true rfl)
  rw [lg_entry_eq]
  generalize (lg_sl ([.ref o, .int sector, .int i, .int mask]) ++ List.replicate (5 - (lg_sl ([.ref o, .int sector, .int i, .int mask])).length) Slot.unset).toArray = ls at hl ⊢
  have hl : lv_has ls 5 [(0, .ref o), (1, .int sector), (2, .int i), (3, .int mask)] := hl
  refine lv_iload_n hx hb dX2_poke_0 rfl (lv_at hl 3 rfl) ?_
  refine lv_iconst (v := 1) hx hb dX2_poke_1 (by decide) ?_
  refine lv_icmp_lt (tgt := 12) hx hb dX2_poke_2 (by decide) (fun c1 => ?_) (fun c1 => ?_)
  · exact k_throw (text := "a poke's mask is 1 .. 255") (names := xNIAE) hx hb hst hown (by decide +kernel) (by decide +kernel) xkIAE xiIAE xhIAE xgIAE hT (by decide +kernel) hZ hP hS (hl.1.trans hml.symm) dX2_poke_12 dX2_poke_15 dX2_poke_16 dX2_poke_18 dX2_poke_21 hno (Nat.le_of_ble_eq_true rfl) (Nat.le_of_ble_eq_true rfl) (Nat.le_of_ble_eq_true rfl) (Nat.le_of_ble_eq_true rfl) hlocks (by simp only [exPoke, if_pos c1]) rfl (Nat.le_of_ble_eq_true rfl) (Nat.le_of_ble_eq_true rfl)
  · refine lv_iload_n hx hb dX2_poke_5 rfl (lv_at hl 3 rfl) ?_
    refine lv_sipush (v := 255) hx hb dX2_poke_6 (by decide) ?_
    refine lv_icmp_le (tgt := 22) hx hb dX2_poke_9 (by decide) (fun c2 => ?_) (fun c2 => ?_)
    · refine lv_aload_n hx hb dX2_poke_22 rfl (lv_at hl 0 rfl) ?_
      refine lv_iload_n hx hb dX2_poke_23 rfl (lv_at hl 1 rfl) ?_
      refine lv_iload_n hx hb dX2_poke_24 rfl (lv_at hl 2 rfl) ?_
      refine k_afT (wc := [(o, .inr (3, [.int se, .ref qd, .ref qe, .ref qo, .ref r, .int tc, .int fb, .int up, .int bk]))]) (ws' := [(o, .inr (3, [.int se, .ref qd, .ref qe, .ref qo, .ref r, .int tc, .int fb, .int up, .int bk])), (qd, .inr (1, [.ref ad])), (ad, .inl (cI, N, .inl fd)), (qe, .inr (1, [.ref ae])), (ae, .inl (cI, N, .inl fe)), (qo, .inr (1, [.ref ao])), (ao, .inl (cI, 20, .inl fo)), (r, .inr (2, [.ref qi, .ref qs, .ref qk, .ref qt, .int last, .int used, .int lod, .int uod])), (qi, .inr (1, [.ref ai])), (ai, .inl (cI, N, .inl fi)), (qs, .inr (1, [.ref aS])), (aS, .inl (cI, K, .inl fs)), (qk, .inr (1, [.ref ak])), (ak, .inl (cI, 6, .inl fk)), (qt, .inr (1, [.ref aT])), (aT, .inl (cI, 8, .inl ft))]) (vx_runV (rest := []) ⟨hx, hb, hml, hown, hts⟩ (m_X2_placeOf l dC dI cI cJ o qd qe qo r se tc fb up bk sector i  hst) (cwV 2 hts gqX2_poke_X2_placeOf rfl rfl rfl hdv_X2_placeOf ⟨Nat.le_of_ble_eq_true rfl, Nat.le_of_ble_eq_true rfl⟩) (k_preVT hK hP hD hS hT hZ [0] rfl rfl rfl 0 rfl rfl) rfl rfl hl.1 rfl (lv_room (Nat.le_of_ble_eq_true rfl)) dX2_poke_25 ⟨Nat.le_of_ble_eq_true rfl, Nat.le_of_ble_eq_true rfl⟩) hP hD hS [0] rfl rfl rfl rfl (fun E ce q9 H locs x3 hP hS hce hcv hcl => ?_) (fun x3 H locs hP hD hS => ?_)
      · exact k_outT hno hlocks hce hcv hcl hP hS (by simp only [exPoke, if_neg c1, if_pos c2, x3, Option.some_or]) rfl (Nat.le_of_ble_eq_true rfl) (Nat.le_of_ble_eq_true rfl)
      · refine lv_istore (lv' := [(4, .int ((sector * 32) + i)), (0, .ref o), (1, .int sector), (2, .int i), (3, .int mask)]) hx hb dX2_poke_28 hl (by decide) rfl (fun ls hl => ?_)
        refine lv_aload_n hx hb dX2_poke_30 rfl (lv_at hl 1 rfl) ?_
        refine k_get (ci := 3) (T := TX2) (N := 9) (C := RX2) hx hb hts inX2 hown hK hP 0 rfl rfl 1 (by decide) fl27 rfl rfl dX2_poke_31 ?_
        refine lv_iload hx hb dX2_poke_34 (lv_at hl 0 rfl) ?_
        refine lv_aload_n hx hb dX2_poke_36 rfl (lv_at hl 1 rfl) ?_
        refine k_get (ci := 3) (T := TX2) (N := 9) (C := RX2) hx hb hts inX2 hown hK hP 0 rfl rfl 1 (by decide) fl27 rfl rfl dX2_poke_37 ?_
        refine lv_iload hx hb dX2_poke_40 (lv_at hl 0 rfl) ?_
        refine k_afP (va_runV (rest := [.int ((sector * 32) + i), .ref qd]) ⟨hx, hb, hml, hown, hts⟩ (m_X0_at l dC dI cI cJ qd ad N fd ((sector * 32) + i) (by first | assumption | decide)) (cwV 1 hts gqX2_poke_X0_at rfl rfl rfl hdv_X0_at ⟨Nat.le_of_ble_eq_true rfl, Nat.le_of_ble_eq_true rfl⟩) (k_preVP hK hP [1, 2] rfl 1 rfl rfl) rfl rfl hl.1 rfl (lv_room (Nat.le_of_ble_eq_true rfl)) dX2_poke_42 ⟨Nat.le_of_ble_eq_true rfl, Nat.le_of_ble_eq_true rfl⟩) ?_
        refine lv_iload_n hx hb dX2_poke_45 rfl (lv_at hl 4 rfl) ?_
        refine lv_ixor hx hb dX2_poke_46 ?_
        refine k_afW (wc := [(qd, .inr (1, [.ref ad])), (ad, .inl (cI, N, .inl fd))]) (ws' := [(o, .inr (3, [.int se, .ref qd, .ref qe, .ref qo, .ref r, .int tc, .int fb, .int up, .int bk])), (qd, .inr (1, [.ref ad])), (ad, .inl (cI, N, .inl (ca_set N fd ((sector * 32) + i) ((ca_at N fd ((sector * 32) + i)) ^^^ mask)))), (qe, .inr (1, [.ref ae])), (ae, .inl (cI, N, .inl fe)), (qo, .inr (1, [.ref ao])), (ao, .inl (cI, 20, .inl fo)), (r, .inr (2, [.ref qi, .ref qs, .ref qk, .ref qt, .int last, .int used, .int lod, .int uod])), (qi, .inr (1, [.ref ai])), (ai, .inl (cI, N, .inl fi)), (qs, .inr (1, [.ref aS])), (aS, .inl (cI, K, .inl fs)), (qk, .inr (1, [.ref ak])), (ak, .inl (cI, 6, .inl fk)), (qt, .inr (1, [.ref aT])), (aT, .inl (cI, 8, .inl ft))]) (va_runV (rest := []) ⟨hx, hb, hml, hown, hts⟩ (m_X0_set l dC dI cI cJ qd ad N fd ((sector * 32) + i) ((ca_at N fd ((sector * 32) + i)) ^^^ mask) (by first | assumption | decide)) (cwV 2 hts gqX2_poke_X0_set rfl rfl rfl hdv_X0_set ⟨Nat.le_of_ble_eq_true rfl, Nat.le_of_ble_eq_true rfl⟩) (k_preVW hK hP hD [1, 2] rfl rfl 1 rfl rfl) rfl rfl hl.1 rfl (lv_room (Nat.le_of_ble_eq_true rfl)) dX2_poke_47 ⟨Nat.le_of_ble_eq_true rfl, Nat.le_of_ble_eq_true rfl⟩) hP hD hS [1, 2] rfl rfl rfl rfl (fun H locs hP hD hS => ?_)
        refine lv_aload_n hx hb dX2_poke_50 rfl (lv_at hl 1 rfl) ?_
        refine k_get (ci := 3) (T := TX2) (N := 9) (C := RX2) hx hb hts inX2 hown hK hP 0 rfl rfl 1 (by decide) fl27 rfl rfl dX2_poke_51 ?_
        refine lv_iload hx hb dX2_poke_54 (lv_at hl 0 rfl) ?_
        refine k_afP (va_runV (rest := []) ⟨hx, hb, hml, hown, hts⟩ (m_X0_at l dC dI cI cJ qd ad N (ca_set N fd ((sector * 32) + i) ((ca_at N fd ((sector * 32) + i)) ^^^ mask)) ((sector * 32) + i) (by first | assumption | decide)) (cwV 1 hts gqX2_poke_X0_at rfl rfl rfl hdv_X0_at ⟨Nat.le_of_ble_eq_true rfl, Nat.le_of_ble_eq_true rfl⟩) (k_preVP hK hP [1, 2] rfl 1 rfl rfl) rfl rfl hl.1 rfl (lv_room (Nat.le_of_ble_eq_true rfl)) dX2_poke_56 ⟨Nat.le_of_ble_eq_true rfl, Nat.le_of_ble_eq_true rfl⟩) ?_
        exact k_iretT hx hb hr hlocks hP hS (by simp only [exPoke, if_neg c1, if_pos c2, x3, Option.none_or]) rfl rfl (Nat.le_of_ble_eq_true rfl) (Nat.le_of_ble_eq_true rfl) dX2_poke_59
    · exact k_throw (text := "a poke's mask is 1 .. 255") (names := xNIAE) hx hb hst hown (by decide +kernel) (by decide +kernel) xkIAE xiIAE xhIAE xgIAE hT (by decide +kernel) hZ hP hS (hl.1.trans hml.symm) dX2_poke_12 dX2_poke_15 dX2_poke_16 dX2_poke_18 dX2_poke_21 hno (Nat.le_of_ble_eq_true rfl) (Nat.le_of_ble_eq_true rfl) (Nat.le_of_ble_eq_true rfl) (Nat.le_of_ble_eq_true rfl) hlocks (by simp only [exPoke, if_neg c1, if_neg c2]) rfl (Nat.le_of_ble_eq_true rfl) (Nat.le_of_ble_eq_true rfl)
set_option maxHeartbeats 4000000 in
set_option maxRecDepth 100000 in
theorem m_X2_byteOf (l : Launch) (dC : Nat → ClassId) (dI : Nat → Nat → Nat) (cI cJ : ClassId) (o : Nat) (qd : Nat) (ad : Nat) (qe : Nat) (ae : Nat) (qo : Nat) (ao : Nat) (r : Nat) (qi : Nat) (ai : Nat) (qs : Nat) (aS : Nat) (qk : Nat) (ak : Nat) (qt : Nat) (aT : Nat) (N : Nat) (K : Nat) (fd : Nat → Int32) (fe : Nat → Int32) (fo : Nat → Int32) (fi : Nat → Int32) (fs : Nat → Int32) (fk : Nat → Int32) (ft : Nat → Int32) (se : Int32) (tc : Int32) (fb : Int32) (up : Int32) (bk : Int32) (last : Int32) (used : Int32) (lod : Int32) (uod : Int32) (sector : Int32) (i : Int32) (hN : N < 2 ^ 31) (hK9 : K < 2 ^ 31) (hst : l.stackTraces = false) : cT l yX2_byteOf wqX2_byteOf ({ frames := 8, cells := 1, slots := 6, locals := 117 }) dC dI cI cJ [(o, .inr (3, [.int se, .ref qd, .ref qe, .ref qo, .ref r, .int tc, .int fb, .int up, .int bk])), (qd, .inr (1, [.ref ad])), (ad, .inl (cI, N, .inl fd)), (qe, .inr (1, [.ref ae])), (ae, .inl (cI, N, .inl fe)), (qo, .inr (1, [.ref ao])), (ao, .inl (cI, 20, .inl fo)), (r, .inr (2, [.ref qi, .ref qs, .ref qk, .ref qt, .int last, .int used, .int lod, .int uod])), (qi, .inr (1, [.ref ai])), (ai, .inl (cI, N, .inl fi)), (qs, .inr (1, [.ref aS])), (aS, .inl (cI, K, .inl fs)), (qk, .inr (1, [.ref ak])), (ak, .inl (cI, 6, .inl fk)), (qt, .inr (1, [.ref aT])), (aT, .inl (cI, 8, .inl ft))] [(o, .inr (3, [.int se, .ref qd, .ref qe, .ref qo, .ref r, .int tc, .int fb, .int up, .int bk])), (qd, .inr (1, [.ref ad])), (ad, .inl (cI, N, .inl fd)), (qe, .inr (1, [.ref ae])), (ae, .inl (cI, N, .inl fe)), (qo, .inr (1, [.ref ao])), (ao, .inl (cI, 20, .inl fo)), (r, .inr (2, [.ref qi, .ref qs, .ref qk, .ref qt, .int last, .int used, .int lod, .int uod])), (qi, .inr (1, [.ref ai])), (ai, .inl (cI, N, .inl fi)), (qs, .inr (1, [.ref aS])), (aS, .inl (cI, K, .inl fs)), (qk, .inr (1, [.ref ak])), (ak, .inl (cI, 6, .inl fk)), (qt, .inr (1, [.ref aT])), (aT, .inl (cI, 8, .inl ft))] [o, qd, ad, qe, ae, qo, ao, r, qi, ai, qs, aS, qk, ak, qt, aT] [.ref o, .int sector, .int i] (exOne (exPlace se sector i)) (some (.int (ca_at N fd ((sector * 32) + i)))) 1 6 := by
  refine vx_ofW (cc := cX2_byteOf) (maxL := 3) (ret := (some .int)) (by decide) rfl ?_
  intro p e s m args below meth c s₁ B hml hno hv
  obtain ⟨rfl, hP, hK, hD0, hT, hZ⟩ := hv
  have hx := B.exec
  have hb := B.bytes
  have hr := B.returns
  have hts := atoms_spec (ws := wqX2_byteOf) B.pre
  have hown : s.vm.findClass RX2 = some m.cls := findClass_of_methodNamed B.named
  have hlocks := B.notSynchronized
  have inX2 : ∀ w ∈ wsX20, w ∈ wqX2_byteOf := fun w h => (List.mem_append_left _ (List.mem_cons_of_mem _ (List.mem_append_left _ (List.mem_append_left _ (List.mem_append_right _ h)))))
  have fl27 := hts (.fieldLink RX2 27 "StockLog" "disk" "LStockLog$Cells;") (by decide +kernel)
  have hD : va_D (mA [o, qd, ad, qe, ae, qo, ao, r, qi, ai, qs, aS, qk, ak, qt, aT]) [(o, .inr (3, [.int se, .ref qd, .ref qe, .ref qo, .ref r, .int tc, .int fb, .int up, .int bk])), (qd, .inr (1, [.ref ad])), (ad, .inl (cI, N, .inl fd)), (qe, .inr (1, [.ref ae])), (ae, .inl (cI, N, .inl fe)), (qo, .inr (1, [.ref ao])), (ao, .inl (cI, 20, .inl fo)), (r, .inr (2, [.ref qi, .ref qs, .ref qk, .ref qt, .int last, .int used, .int lod, .int uod])), (qi, .inr (1, [.ref ai])), (ai, .inl (cI, N, .inl fi)), (qs, .inr (1, [.ref aS])), (aS, .inl (cI, K, .inl fs)), (qk, .inr (1, [.ref ak])), (ak, .inl (cI, 6, .inl fk)), (qt, .inr (1, [.ref aT])), (aT, .inl (cI, 8, .inl ft))] := k_Dw hD0 rfl
  have hS : va_S (mA [o, qd, ad, qe, ae, qo, ao, r, qi, ai, qs, aS, qk, ak, qt, aT]) s.heap s.heap [] := va_S.rf
  have hl := lv_entry ([.ref o, .int sector, .int i]) (n := 3) (Nat.le_of_ble_eq_true rfl)
  rw [lg_entry_eq]
  generalize (lg_sl ([.ref o, .int sector, .int i]) ++ List.replicate (3 - (lg_sl ([.ref o, .int sector, .int i])).length) Slot.unset).toArray = ls at hl ⊢
  have hl : lv_has ls 3 [(0, .ref o), (1, .int sector), (2, .int i)] := hl
  refine lv_aload_n hx hb dX2_byteOf_0 rfl (lv_at hl 0 rfl) ?_
  refine k_get (ci := 3) (T := TX2) (N := 9) (C := RX2) hx hb hts inX2 hown hK hP 0 rfl rfl 1 (by decide) fl27 rfl rfl dX2_byteOf_1 ?_
  refine lv_aload_n hx hb dX2_byteOf_4 rfl (lv_at hl 0 rfl) ?_
  refine lv_iload_n hx hb dX2_byteOf_5 rfl (lv_at hl 1 rfl) ?_
  refine lv_iload_n hx hb dX2_byteOf_6 rfl (lv_at hl 2 rfl) ?_
  refine k_afT (wc := [(o, .inr (3, [.int se, .ref qd, .ref qe, .ref qo, .ref r, .int tc, .int fb, .int up, .int bk]))]) (ws' := [(o, .inr (3, [.int se, .ref qd, .ref qe, .ref qo, .ref r, .int tc, .int fb, .int up, .int bk])), (qd, .inr (1, [.ref ad])), (ad, .inl (cI, N, .inl fd)), (qe, .inr (1, [.ref ae])), (ae, .inl (cI, N, .inl fe)), (qo, .inr (1, [.ref ao])), (ao, .inl (cI, 20, .inl fo)), (r, .inr (2, [.ref qi, .ref qs, .ref qk, .ref qt, .int last, .int used, .int lod, .int uod])), (qi, .inr (1, [.ref ai])), (ai, .inl (cI, N, .inl fi)), (qs, .inr (1, [.ref aS])), (aS, .inl (cI, K, .inl fs)), (qk, .inr (1, [.ref ak])), (ak, .inl (cI, 6, .inl fk)), (qt, .inr (1, [.ref aT])), (aT, .inl (cI, 8, .inl ft))]) (vx_runV (rest := [.ref qd]) ⟨hx, hb, hml, hown, hts⟩ (m_X2_placeOf l dC dI cI cJ o qd qe qo r se tc fb up bk sector i  hst) (cwV 2 hts gqX2_byteOf_X2_placeOf rfl rfl rfl hdv_X2_placeOf ⟨Nat.le_of_ble_eq_true rfl, Nat.le_of_ble_eq_true rfl⟩) (k_preVT hK hP hD hS hT hZ [0] rfl rfl rfl 0 rfl rfl) rfl rfl hl.1 rfl (lv_room (Nat.le_of_ble_eq_true rfl)) dX2_byteOf_7 ⟨Nat.le_of_ble_eq_true rfl, Nat.le_of_ble_eq_true rfl⟩) hP hD hS [0] rfl rfl rfl rfl (fun E ce q9 H locs x1 hP hS hce hcv hcl => ?_) (fun x1 H locs hP hD hS => ?_)
  · exact k_outT hno hlocks hce hcv hcl hP hS (by simp only [exOne, x1, Option.some_or]) rfl (Nat.le_of_ble_eq_true rfl) (Nat.le_of_ble_eq_true rfl)
  · refine k_afP (va_runV (rest := []) ⟨hx, hb, hml, hown, hts⟩ (m_X0_at l dC dI cI cJ qd ad N fd ((sector * 32) + i) (by first | assumption | decide)) (cwV 1 hts gqX2_byteOf_X0_at rfl rfl rfl hdv_X0_at ⟨Nat.le_of_ble_eq_true rfl, Nat.le_of_ble_eq_true rfl⟩) (k_preVP hK hP [1, 2] rfl 1 rfl rfl) rfl rfl hl.1 rfl (lv_room (Nat.le_of_ble_eq_true rfl)) dX2_byteOf_10 ⟨Nat.le_of_ble_eq_true rfl, Nat.le_of_ble_eq_true rfl⟩) ?_
    exact k_iretT hx hb hr hlocks hP hS (by simp only [exOne, x1, Option.none_or]) rfl rfl (Nat.le_of_ble_eq_true rfl) (Nat.le_of_ble_eq_true rfl) dX2_byteOf_13
set_option maxHeartbeats 4000000 in
set_option maxRecDepth 100000 in
theorem m_X2_row (l : Launch) (dC : Nat → ClassId) (dI : Nat → Nat → Nat) (cI cJ : ClassId) (o : Nat) (qd : Nat) (ad : Nat) (qe : Nat) (ae : Nat) (qo : Nat) (ao : Nat) (r : Nat) (qi : Nat) (ai : Nat) (qs : Nat) (aS : Nat) (qk : Nat) (ak : Nat) (qt : Nat) (aT : Nat) (N : Nat) (K : Nat) (fd : Nat → Int32) (fe : Nat → Int32) (fo : Nat → Int32) (fi : Nat → Int32) (fs : Nat → Int32) (fk : Nat → Int32) (ft : Nat → Int32) (se : Int32) (tc : Int32) (fb : Int32) (up : Int32) (bk : Int32) (last : Int32) (used : Int32) (lod : Int32) (uod : Int32) (number : Int32) (what : Int32) (hN : N < 2 ^ 31) (hK9 : K < 2 ^ 31) (hst : l.stackTraces = false) : cT l yX2_row wsX2_row ({ frames := 7, cells := 1, slots := 6, locals := 104 }) dC dI cI cJ [(o, .inr (3, [.int se, .ref qd, .ref qe, .ref qo, .ref r, .int tc, .int fb, .int up, .int bk])), (qd, .inr (1, [.ref ad])), (ad, .inl (cI, N, .inl fd)), (qe, .inr (1, [.ref ae])), (ae, .inl (cI, N, .inl fe)), (qo, .inr (1, [.ref ao])), (ao, .inl (cI, 20, .inl fo)), (r, .inr (2, [.ref qi, .ref qs, .ref qk, .ref qt, .int last, .int used, .int lod, .int uod])), (qi, .inr (1, [.ref ai])), (ai, .inl (cI, N, .inl fi)), (qs, .inr (1, [.ref aS])), (aS, .inl (cI, K, .inl fs)), (qk, .inr (1, [.ref ak])), (ak, .inl (cI, 6, .inl fk)), (qt, .inr (1, [.ref aT])), (aT, .inl (cI, 8, .inl ft))] [(o, .inr (3, [.int se, .ref qd, .ref qe, .ref qo, .ref r, .int tc, .int fb, .int up, .int bk])), (qd, .inr (1, [.ref ad])), (ad, .inl (cI, N, .inl fd)), (qe, .inr (1, [.ref ae])), (ae, .inl (cI, N, .inl fe)), (qo, .inr (1, [.ref ao])), (ao, .inl (cI, 20, .inl fo)), (r, .inr (2, [.ref qi, .ref qs, .ref qk, .ref qt, .int last, .int used, .int lod, .int uod])), (qi, .inr (1, [.ref ai])), (ai, .inl (cI, N, .inl fi)), (qs, .inr (1, [.ref aS])), (aS, .inl (cI, K, .inl fs)), (qk, .inr (1, [.ref ak])), (ak, .inl (cI, 6, .inl fk)), (qt, .inr (1, [.ref aT])), (aT, .inl (cI, 8, .inl ft))] [o, qd, ad, qe, ae, qo, ao, r, qi, ai, qs, aS, qk, ak, qt, aT] [.ref o, .int number, .int what] (exRow N K fi fs last number what) (some (.int (sl_row N K fi fs lod number what))) 1 6 := by
  refine vx_ofW (cc := cX2_row) (maxL := 3) (ret := (some .int)) (by decide) rfl ?_
  intro p e s m args below meth c s₁ B hml hno hv
  obtain ⟨rfl, hP, hK, hD0, hT, hZ⟩ := hv
  have hx := B.exec
  have hb := B.bytes
  have hr := B.returns
  have hts := atoms_spec (ws := wsX2_row) B.pre
  have hown : s.vm.findClass RX2 = some m.cls := findClass_of_methodNamed B.named
  have hlocks := B.notSynchronized
  have inX1 : ∀ w ∈ wsX10, w ∈ wsX2_row := fun w h => (List.mem_cons_of_mem _ (List.mem_append_left _ (List.mem_append_left _ (List.mem_append_left _ (List.mem_append_right _ h)))))
  have inX2 : ∀ w ∈ wsX20, w ∈ wsX2_row := fun w h => (List.mem_cons_of_mem _ (List.mem_append_left _ (List.mem_append_left _ (List.mem_append_left _ (List.mem_append_left _ (List.mem_append_right _ h))))))
  have xkIAE := hts (.classLink RX2 51 xIAE) (by decide +kernel)
  have xiIAE := hts (.initialized xIAE) (by decide +kernel)
  have xhIAE := vx_hat (fun w h => hts w (List.mem_cons_of_mem _ (List.mem_append_right _ h))) xbIAE (fun w h => va_Nw.use (gXW_on w h) (hT.1 w h))
  have xkNSE := hts (.classLink RX2 134 xNSE) (by decide +kernel)
  have xiNSE := hts (.initialized xNSE) (by decide +kernel)
  have xhNSE := vx_hat (fun w h => hts w (List.mem_cons_of_mem _ (List.mem_append_left _ (List.mem_append_right _ h)))) xbNSE (fun w h => va_Nw.use (gXW_on w h) (hT.1 w h))
  have fl40 := hts (.fieldLink RX2 40 "StockLog" "rows" "LStockLog$Rows;") (by decide +kernel)
  have hD : va_D (mA [o, qd, ad, qe, ae, qo, ao, r, qi, ai, qs, aS, qk, ak, qt, aT]) [(o, .inr (3, [.int se, .ref qd, .ref qe, .ref qo, .ref r, .int tc, .int fb, .int up, .int bk])), (qd, .inr (1, [.ref ad])), (ad, .inl (cI, N, .inl fd)), (qe, .inr (1, [.ref ae])), (ae, .inl (cI, N, .inl fe)), (qo, .inr (1, [.ref ao])), (ao, .inl (cI, 20, .inl fo)), (r, .inr (2, [.ref qi, .ref qs, .ref qk, .ref qt, .int last, .int used, .int lod, .int uod])), (qi, .inr (1, [.ref ai])), (ai, .inl (cI, N, .inl fi)), (qs, .inr (1, [.ref aS])), (aS, .inl (cI, K, .inl fs)), (qk, .inr (1, [.ref ak])), (ak, .inl (cI, 6, .inl fk)), (qt, .inr (1, [.ref aT])), (aT, .inl (cI, 8, .inl ft))] := k_Dw hD0 rfl
  have hS : va_S (mA [o, qd, ad, qe, ae, qo, ao, r, qi, ai, qs, aS, qk, ak, qt, aT]) s.heap s.heap [] := va_S.rf
  have hl := lv_entry ([.ref o, .int number, .int what]) (n := 3) (Nat.le_of_ble_eq_true rfl)
  rw [lg_entry_eq]
  generalize (lg_sl ([.ref o, .int number, .int what]) ++ List.replicate (3 - (lg_sl ([.ref o, .int number, .int what])).length) Slot.unset).toArray = ls at hl ⊢
  have hl : lv_has ls 3 [(0, .ref o), (1, .int number), (2, .int what)] := hl
  refine lv_aload_n hx hb dX2_row_0 rfl (lv_at hl 0 rfl) ?_
  refine k_get (ci := 3) (T := TX2) (N := 9) (C := RX2) hx hb hts inX2 hown hK hP 0 rfl rfl 4 (by decide) fl40 rfl rfl dX2_row_1 ?_
  refine lv_iload_n hx hb dX2_row_4 rfl (lv_at hl 1 rfl) ?_
  refine k_afP (va_runV (rest := []) ⟨hx, hb, hml, hown, hts⟩ (m_X1_has l dC dI cI cJ r qi ai qs aS qk ak qt aT N K fi fs fk ft last used lod uod number ) (cwV 1 hts gX2_row_X1_has rfl rfl rfl hdv_X1_has ⟨Nat.le_of_ble_eq_true rfl, Nat.le_of_ble_eq_true rfl⟩) (k_preVP hK hP [7, 8, 9, 10, 11, 12, 13, 14, 15] rfl 7 rfl rfl) rfl rfl hl.1 rfl (lv_room (Nat.le_of_ble_eq_true rfl)) dX2_row_5 ⟨Nat.le_of_ble_eq_true rfl, Nat.le_of_ble_eq_true rfl⟩) ?_
  refine lv_if_ne (tgt := 21) hx hb dX2_row_8 (by decide) (fun c1 => ?_) (fun c1 => ?_)
  · refine lv_iload_n hx hb dX2_row_21 rfl (lv_at hl 2 rfl) ?_
    refine lv_bipush (v := 10) hx hb dX2_row_22 (by decide) ?_
    refine lv_icmp_lt (tgt := 37) hx hb dX2_row_24 (by decide) (fun c2 => ?_) (fun c2 => ?_)
    · refine lv_iload_n hx hb dX2_row_37 rfl (lv_at hl 2 rfl) ?_
      by_cases c3 : what = 0
      · refine lv_tableIn (off := 26) (tgt := 64) hx hb dX2_row_38 (by rw [c3]; decide) (by rw [c3]; decide) (by rw [c3]; rfl) (by decide) ?_
        refine lv_aload_n hx hb dX2_row_64 rfl (lv_at hl 0 rfl) ?_
        refine k_get (ci := 3) (T := TX2) (N := 9) (C := RX2) hx hb hts inX2 hown hK hP 0 rfl rfl 4 (by decide) fl40 rfl rfl dX2_row_65 ?_
        refine lv_iload_n hx hb dX2_row_68 rfl (lv_at hl 1 rfl) ?_
        refine k_afP (va_runV (rest := []) ⟨hx, hb, hml, hown, hts⟩ (m_X1_kindOf l dC dI cI cJ r qi ai qs aS qk ak qt aT N K fi fs fk ft last used lod uod number (by first | assumption | decide) (by first | assumption | decide)) (cwV 1 hts gX2_row_X1_kindOf rfl rfl rfl hdv_X1_kindOf ⟨Nat.le_of_ble_eq_true rfl, Nat.le_of_ble_eq_true rfl⟩) (k_preVP hK hP [7, 8, 9, 10, 11, 12, 13, 14, 15] rfl 7 rfl rfl) rfl rfl hl.1 rfl (lv_room (Nat.le_of_ble_eq_true rfl)) dX2_row_69 ⟨Nat.le_of_ble_eq_true rfl, Nat.le_of_ble_eq_true rfl⟩) ?_
        exact k_iretT hx hb hr hlocks hP hS (by simp only [exRow, if_neg c1, if_pos c2, if_pos c3]) (by simp only [sl_row, if_neg c1, if_pos c2, if_pos c3]) rfl (Nat.le_of_ble_eq_true rfl) (Nat.le_of_ble_eq_true rfl) dX2_row_72
      by_cases c4 : what = 1
      · refine lv_tableIn (off := 35) (tgt := 73) hx hb dX2_row_38 (by rw [c4]; decide) (by rw [c4]; decide) (by rw [c4]; rfl) (by decide) ?_
        refine lv_aload_n hx hb dX2_row_73 rfl (lv_at hl 0 rfl) ?_
        refine k_get (ci := 3) (T := TX2) (N := 9) (C := RX2) hx hb hts inX2 hown hK hP 0 rfl rfl 4 (by decide) fl40 rfl rfl dX2_row_74 ?_
        refine lv_iload_n hx hb dX2_row_77 rfl (lv_at hl 1 rfl) ?_
        refine k_afP (va_runV (rest := []) ⟨hx, hb, hml, hown, hts⟩ (m_X1_lengthOf l dC dI cI cJ r qi ai qs aS qk ak qt aT N K fi fs fk ft last used lod uod number (by first | assumption | decide) (by first | assumption | decide)) (cwV 1 hts gX2_row_X1_lengthOf rfl rfl rfl hdv_X1_lengthOf ⟨Nat.le_of_ble_eq_true rfl, Nat.le_of_ble_eq_true rfl⟩) (k_preVP hK hP [7, 8, 9, 10, 11, 12, 13, 14, 15] rfl 7 rfl rfl) rfl rfl hl.1 rfl (lv_room (Nat.le_of_ble_eq_true rfl)) dX2_row_78 ⟨Nat.le_of_ble_eq_true rfl, Nat.le_of_ble_eq_true rfl⟩) ?_
        exact k_iretT hx hb hr hlocks hP hS (by simp only [exRow, if_neg c1, if_pos c2, if_neg c3, if_pos c4]) (by simp only [sl_row, if_neg c1, if_pos c2, if_neg c3, if_pos c4]) rfl (Nat.le_of_ble_eq_true rfl) (Nat.le_of_ble_eq_true rfl) dX2_row_81
      by_cases c5 : what = 2
      · refine lv_tableIn (off := 44) (tgt := 82) hx hb dX2_row_38 (by rw [c5]; decide) (by rw [c5]; decide) (by rw [c5]; rfl) (by decide) ?_
        refine lv_iload_n hx hb dX2_row_82 rfl (lv_at hl 1 rfl) ?_
        refine lv_aload_n hx hb dX2_row_83 rfl (lv_at hl 0 rfl) ?_
        refine k_get (ci := 3) (T := TX2) (N := 9) (C := RX2) hx hb hts inX2 hown hK hP 0 rfl rfl 4 (by decide) fl40 rfl rfl dX2_row_84 ?_
        refine k_getN (host := "StockLog") (ci := 2) (T := TX1) (N := 8) (C := RX1) hx hb hts inX1 hown hK hP 7 rfl rfl 6 (by decide) (by decide +kernel) rfl rfl dX2_row_87 ?_
        refine lv_icmp_gt (tgt := 97) hx hb dX2_row_90 (by decide) (fun c6 => ?_) (fun c6 => ?_)
        · refine lv_iconst (v := 0) hx hb dX2_row_97 (by decide) ?_
          exact k_iretT hx hb hr hlocks hP hS (by simp only [exRow, if_neg c1, if_pos c2, if_neg c3, if_neg c4, if_pos c5, if_pos c6]) (by simp only [sl_row, if_neg c1, if_pos c2, if_neg c3, if_neg c4, if_pos c5, if_pos c6]) rfl (Nat.le_of_ble_eq_true rfl) (Nat.le_of_ble_eq_true rfl) dX2_row_98
        · refine lv_iconst (v := 1) hx hb dX2_row_93 (by decide) ?_
          refine lv_goto (tgt := 98) hx hb dX2_row_94 (by decide) ?_
          exact k_iretT hx hb hr hlocks hP hS (by simp only [exRow, if_neg c1, if_pos c2, if_neg c3, if_neg c4, if_pos c5, if_neg c6]) (by simp only [sl_row, if_neg c1, if_pos c2, if_neg c3, if_neg c4, if_pos c5, if_neg c6]) rfl (Nat.le_of_ble_eq_true rfl) (Nat.le_of_ble_eq_true rfl) dX2_row_98
      refine lv_tableOut (tgt := 99) hx hb dX2_row_38 (by have := lv_neT (k := 0) (a := 0) c3 rfl; have := lv_neT (k := 1) (a := 1) c4 rfl; have := lv_neT (k := 2) (a := 2) c5 rfl; omega) (by decide) ?_
      exact k_throw (text := "no such thing to ask of a row") (names := xNIAE) hx hb hst hown (by decide +kernel) (by decide +kernel) xkIAE xiIAE xhIAE xgIAE hT (by decide +kernel) hZ hP hS (hl.1.trans hml.symm) dX2_row_99 dX2_row_102 dX2_row_103 dX2_row_105 dX2_row_108 hno (Nat.le_of_ble_eq_true rfl) (Nat.le_of_ble_eq_true rfl) (Nat.le_of_ble_eq_true rfl) (Nat.le_of_ble_eq_true rfl) hlocks (by simp only [exRow, if_neg c1, if_pos c2, if_neg c3, if_neg c4, if_neg c5]) rfl (Nat.le_of_ble_eq_true rfl) (Nat.le_of_ble_eq_true rfl)
    · refine lv_aload_n hx hb dX2_row_27 rfl (lv_at hl 0 rfl) ?_
      refine lv_iload_n hx hb dX2_row_28 rfl (lv_at hl 1 rfl) ?_
      refine lv_iload_n hx hb dX2_row_29 rfl (lv_at hl 2 rfl) ?_
      refine lv_bipush (v := 10) hx hb dX2_row_30 (by decide) ?_
      refine lv_isub hx hb dX2_row_32 ?_
      refine k_afT (wc := [(o, .inr (3, [.int se, .ref qd, .ref qe, .ref qo, .ref r, .int tc, .int fb, .int up, .int bk])), (r, .inr (2, [.ref qi, .ref qs, .ref qk, .ref qt, .int last, .int used, .int lod, .int uod])), (qi, .inr (1, [.ref ai])), (ai, .inl (cI, N, .inl fi)), (qs, .inr (1, [.ref aS])), (aS, .inl (cI, K, .inl fs)), (qk, .inr (1, [.ref ak])), (ak, .inl (cI, 6, .inl fk)), (qt, .inr (1, [.ref aT])), (aT, .inl (cI, 8, .inl ft))]) (ws' := [(o, .inr (3, [.int se, .ref qd, .ref qe, .ref qo, .ref r, .int tc, .int fb, .int up, .int bk])), (qd, .inr (1, [.ref ad])), (ad, .inl (cI, N, .inl fd)), (qe, .inr (1, [.ref ae])), (ae, .inl (cI, N, .inl fe)), (qo, .inr (1, [.ref ao])), (ao, .inl (cI, 20, .inl fo)), (r, .inr (2, [.ref qi, .ref qs, .ref qk, .ref qt, .int last, .int used, .int lod, .int uod])), (qi, .inr (1, [.ref ai])), (ai, .inl (cI, N, .inl fi)), (qs, .inr (1, [.ref aS])), (aS, .inl (cI, K, .inl fs)), (qk, .inr (1, [.ref ak])), (ak, .inl (cI, 6, .inl fk)), (qt, .inr (1, [.ref aT])), (aT, .inl (cI, 8, .inl ft))]) (vx_runV (rest := []) ⟨hx, hb, hml, hown, hts⟩ (m_X2_byteOfRow l dC dI cI cJ o qd qe qo r qi ai qs aS qk ak qt aT N K fi fs fk ft se tc fb up bk last used lod uod number (what - 10) (by first | assumption | decide) (by first | assumption | decide) hst) (cwV 2 hts gX2_row_X2_byteOfRow rfl rfl rfl hdv_X2_byteOfRow ⟨Nat.le_of_ble_eq_true rfl, Nat.le_of_ble_eq_true rfl⟩) (k_preVT hK hP hD hS hT hZ [0, 7, 8, 9, 10, 11, 12, 13, 14, 15] rfl rfl rfl 0 rfl rfl) rfl rfl hl.1 rfl (lv_room (Nat.le_of_ble_eq_true rfl)) dX2_row_33 ⟨Nat.le_of_ble_eq_true rfl, Nat.le_of_ble_eq_true rfl⟩) hP hD hS [0, 7, 8, 9, 10, 11, 12, 13, 14, 15] rfl rfl rfl rfl (fun E ce q9 H locs x7 hP hS hce hcv hcl => ?_) (fun x7 H locs hP hD hS => ?_)
      · exact k_outT hno hlocks hce hcv hcl hP hS (by simp only [exRow, if_neg c1, if_neg c2, x7, Option.some_or]) rfl (Nat.le_of_ble_eq_true rfl) (Nat.le_of_ble_eq_true rfl)
      · exact k_iretT hx hb hr hlocks hP hS (by simp only [exRow, if_neg c1, if_neg c2, x7, Option.none_or]) (by simp only [sl_row, if_neg c1, if_neg c2]) rfl (Nat.le_of_ble_eq_true rfl) (Nat.le_of_ble_eq_true rfl) dX2_row_36
  · exact k_throw (text := "no such row") (names := xNNSE) hx hb hst hown (by decide +kernel) (by decide +kernel) xkNSE xiNSE xhNSE xgNSE hT (by decide +kernel) hZ hP hS (hl.1.trans hml.symm) dX2_row_11 dX2_row_14 dX2_row_15 dX2_row_17 dX2_row_20 hno (Nat.le_of_ble_eq_true rfl) (Nat.le_of_ble_eq_true rfl) (Nat.le_of_ble_eq_true rfl) (Nat.le_of_ble_eq_true rfl) hlocks (by simp only [exRow, if_pos c1]) rfl (Nat.le_of_ble_eq_true rfl) (Nat.le_of_ble_eq_true rfl)
set_option maxHeartbeats 4000000 in
set_option maxRecDepth 100000 in
theorem m_X2_find (l : Launch) (dC : Nat → ClassId) (dI : Nat → Nat → Nat) (cI cJ : ClassId) (o : Nat) (qd : Nat) (ad : Nat) (qe : Nat) (ae : Nat) (qo : Nat) (ao : Nat) (r : Nat) (qi : Nat) (ai : Nat) (qs : Nat) (aS : Nat) (qk : Nat) (ak : Nat) (qt : Nat) (aT : Nat) (N : Nat) (K : Nat) (fd : Nat → Int32) (fe : Nat → Int32) (fo : Nat → Int32) (fi : Nat → Int32) (fs : Nat → Int32) (fk : Nat → Int32) (ft : Nat → Int32) (se : Int32) (tc : Int32) (fb : Int32) (up : Int32) (bk : Int32) (last : Int32) (used : Int32) (lod : Int32) (uod : Int32) (kind : Int32) (i : Int32) (hN : N < 2 ^ 31) (hK9 : K < 2 ^ 31) (hlast : last < 2147483647) (hst : l.stackTraces = false) : cT l yX2_find wsX2_find ({ frames := 7, cells := 2, slots := 12, locals := 103 }) dC dI cI cJ [(o, .inr (3, [.int se, .ref qd, .ref qe, .ref qo, .ref r, .int tc, .int fb, .int up, .int bk])), (qd, .inr (1, [.ref ad])), (ad, .inl (cI, N, .inl fd)), (qe, .inr (1, [.ref ae])), (ae, .inl (cI, N, .inl fe)), (qo, .inr (1, [.ref ao])), (ao, .inl (cI, 20, .inl fo)), (r, .inr (2, [.ref qi, .ref qs, .ref qk, .ref qt, .int last, .int used, .int lod, .int uod])), (qi, .inr (1, [.ref ai])), (ai, .inl (cI, N, .inl fi)), (qs, .inr (1, [.ref aS])), (aS, .inl (cI, K, .inl fs)), (qk, .inr (1, [.ref ak])), (ak, .inl (cI, 6, .inl fk)), (qt, .inr (1, [.ref aT])), (aT, .inl (cI, 8, .inl ft))] [(o, .inr (3, [.int se, .ref qd, .ref qe, .ref qo, .ref r, .int tc, .int fb, .int up, .int bk])), (qd, .inr (1, [.ref ad])), (ad, .inl (cI, N, .inl fd)), (qe, .inr (1, [.ref ae])), (ae, .inl (cI, N, .inl fe)), (qo, .inr (1, [.ref ao])), (ao, .inl (cI, 20, .inl fo)), (r, .inr (2, [.ref qi, .ref qs, .ref qk, .ref qt, .int last, .int used, .int lod, .int uod])), (qi, .inr (1, [.ref ai])), (ai, .inl (cI, N, .inl fi)), (qs, .inr (1, [.ref aS])), (aS, .inl (cI, K, .inl fs)), (qk, .inr (1, [.ref ak])), (ak, .inl (cI, 6, .inl fk)), (qt, .inr (1, [.ref aT])), (aT, .inl (cI, 8, .inl ft))] [o, qd, ad, qe, ae, qo, ao, r, qi, ai, qs, aS, qk, ak, qt, aT] [.ref o, .int kind, .int i] (exFind kind i) (some (.int (rw_numberOf N K fi fs last kind i))) 2 12 := by
  refine vx_ofW (cc := cX2_find) (maxL := 3) (ret := (some .int)) (by decide) rfl ?_
  intro p e s m args below meth c s₁ B hml hno hv
  obtain ⟨rfl, hP, hK, hD0, hT, hZ⟩ := hv
  have hx := B.exec
  have hb := B.bytes
  have hr := B.returns
  have hts := atoms_spec (ws := wsX2_find) B.pre
  have hown : s.vm.findClass RX2 = some m.cls := findClass_of_methodNamed B.named
  have hlocks := B.notSynchronized
  have inX2 : ∀ w ∈ wsX20, w ∈ wsX2_find := fun w h => (List.mem_cons_of_mem _ (List.mem_append_left _ (List.mem_append_left _ (List.mem_append_left _ (List.mem_append_right _ h)))))
  have xkIAE := hts (.classLink RX2 51 xIAE) (by decide +kernel)
  have xiIAE := hts (.initialized xIAE) (by decide +kernel)
  have xhIAE := vx_hat (fun w h => hts w (List.mem_cons_of_mem _ (List.mem_append_right _ h))) xbIAE (fun w h => va_Nw.use (gXW_on w h) (hT.1 w h))
  have fl40 := hts (.fieldLink RX2 40 "StockLog" "rows" "LStockLog$Rows;") (by decide +kernel)
  have hD : va_D (mA [o, qd, ad, qe, ae, qo, ao, r, qi, ai, qs, aS, qk, ak, qt, aT]) [(o, .inr (3, [.int se, .ref qd, .ref qe, .ref qo, .ref r, .int tc, .int fb, .int up, .int bk])), (qd, .inr (1, [.ref ad])), (ad, .inl (cI, N, .inl fd)), (qe, .inr (1, [.ref ae])), (ae, .inl (cI, N, .inl fe)), (qo, .inr (1, [.ref ao])), (ao, .inl (cI, 20, .inl fo)), (r, .inr (2, [.ref qi, .ref qs, .ref qk, .ref qt, .int last, .int used, .int lod, .int uod])), (qi, .inr (1, [.ref ai])), (ai, .inl (cI, N, .inl fi)), (qs, .inr (1, [.ref aS])), (aS, .inl (cI, K, .inl fs)), (qk, .inr (1, [.ref ak])), (ak, .inl (cI, 6, .inl fk)), (qt, .inr (1, [.ref aT])), (aT, .inl (cI, 8, .inl ft))] := k_Dw hD0 rfl
  have hS : va_S (mA [o, qd, ad, qe, ae, qo, ao, r, qi, ai, qs, aS, qk, ak, qt, aT]) s.heap s.heap [] := va_S.rf
  have hl := lv_entry ([.ref o, .int kind, .int i]) (n := 3) (Nat.le_of_ble_eq_true rfl)
  rw [lg_entry_eq]
  generalize (lg_sl ([.ref o, .int kind, .int i]) ++ List.replicate (3 - (lg_sl ([.ref o, .int kind, .int i])).length) Slot.unset).toArray = ls at hl ⊢
  have hl : lv_has ls 3 [(0, .ref o), (1, .int kind), (2, .int i)] := hl
  refine lv_aload_n hx hb dX2_find_0 rfl (lv_at hl 0 rfl) ?_
  refine lv_iload_n hx hb dX2_find_1 rfl (lv_at hl 1 rfl) ?_
  refine k_afT (wc := [(o, .inr (3, [.int se, .ref qd, .ref qe, .ref qo, .ref r, .int tc, .int fb, .int up, .int bk]))]) (ws' := [(o, .inr (3, [.int se, .ref qd, .ref qe, .ref qo, .ref r, .int tc, .int fb, .int up, .int bk])), (qd, .inr (1, [.ref ad])), (ad, .inl (cI, N, .inl fd)), (qe, .inr (1, [.ref ae])), (ae, .inl (cI, N, .inl fe)), (qo, .inr (1, [.ref ao])), (ao, .inl (cI, 20, .inl fo)), (r, .inr (2, [.ref qi, .ref qs, .ref qk, .ref qt, .int last, .int used, .int lod, .int uod])), (qi, .inr (1, [.ref ai])), (ai, .inl (cI, N, .inl fi)), (qs, .inr (1, [.ref aS])), (aS, .inl (cI, K, .inl fs)), (qk, .inr (1, [.ref ak])), (ak, .inl (cI, 6, .inl fk)), (qt, .inr (1, [.ref aT])), (aT, .inl (cI, 8, .inl ft))]) (vx_runV (rest := []) ⟨hx, hb, hml, hown, hts⟩ (m_X2_refuseOtherKind l dC dI cI cJ o qd qe qo r se tc fb up bk kind  hst) (cwV 1 hts gX2_find_X2_refuseOtherKind rfl rfl rfl hdv_X2_refuseOtherKind ⟨Nat.le_of_ble_eq_true rfl, Nat.le_of_ble_eq_true rfl⟩) (k_preVT hK hP hD hS hT hZ [0] rfl rfl rfl 0 rfl rfl) rfl rfl hl.1 rfl (lv_room (Nat.le_of_ble_eq_true rfl)) dX2_find_2 ⟨Nat.le_of_ble_eq_true rfl, Nat.le_of_ble_eq_true rfl⟩) hP hD hS [0] rfl rfl rfl rfl (fun E ce q9 H locs x1 hP hS hce hcv hcl => ?_) (fun x1 H locs hP hD hS => ?_)
  · exact k_outT hno hlocks hce hcv hcl hP hS (by simp only [exFind, x1, Option.some_or]) rfl (Nat.le_of_ble_eq_true rfl) (Nat.le_of_ble_eq_true rfl)
  · refine lv_iload_n hx hb dX2_find_5 rfl (lv_at hl 2 rfl) ?_
    refine lv_if_ge (tgt := 19) hx hb dX2_find_6 (by decide) (fun c2 => ?_) (fun c2 => ?_)
    · refine lv_aload_n hx hb dX2_find_19 rfl (lv_at hl 0 rfl) ?_
      refine k_get (ci := 3) (T := TX2) (N := 9) (C := RX2) hx hb hts inX2 hown hK hP 0 rfl rfl 4 (by decide) fl40 rfl rfl dX2_find_20 ?_
      refine lv_iload_n hx hb dX2_find_23 rfl (lv_at hl 1 rfl) ?_
      refine lv_iload_n hx hb dX2_find_24 rfl (lv_at hl 2 rfl) ?_
      refine k_afP (va_runV (rest := []) ⟨hx, hb, hml, hown, hts⟩ (m_X1_numberOf l dC dI cI cJ r qi ai qs aS qk ak qt aT N K fi fs fk ft last used lod uod kind i (by first | assumption | decide) (by first | assumption | decide) (by first | assumption | decide)) (cwV 2 hts gX2_find_X1_numberOf rfl rfl rfl hdv_X1_numberOf ⟨Nat.le_of_ble_eq_true rfl, Nat.le_of_ble_eq_true rfl⟩) (k_preVP hK hP [7, 8, 9, 10, 11, 12, 13, 14, 15] rfl 7 rfl rfl) rfl rfl hl.1 rfl (lv_room (Nat.le_of_ble_eq_true rfl)) dX2_find_25 ⟨Nat.le_of_ble_eq_true rfl, Nat.le_of_ble_eq_true rfl⟩) ?_
      exact k_iretT hx hb hr hlocks hP hS (by simp only [exFind, x1, Option.none_or, if_pos c2]) rfl rfl (Nat.le_of_ble_eq_true rfl) (Nat.le_of_ble_eq_true rfl) dX2_find_28
    · exact k_throw (text := "rows of a kind are counted from 0 on") (names := xNIAE) hx hb hst hown (by decide +kernel) (by decide +kernel) xkIAE xiIAE xhIAE xgIAE hT (by decide +kernel) hZ hP hS (hl.1.trans hml.symm) dX2_find_9 dX2_find_12 dX2_find_13 dX2_find_15 dX2_find_18 hno (Nat.le_of_ble_eq_true rfl) (Nat.le_of_ble_eq_true rfl) (Nat.le_of_ble_eq_true rfl) (Nat.le_of_ble_eq_true rfl) hlocks (by simp only [exFind, x1, Option.none_or, if_neg c2]) rfl (Nat.le_of_ble_eq_true rfl) (Nat.le_of_ble_eq_true rfl)
set_option maxHeartbeats 4000000 in
set_option maxRecDepth 100000 in
theorem m_X2_wrong (l : Launch) (dC : Nat → ClassId) (dI : Nat → Nat → Nat) (cI cJ : ClassId) (o : Nat) (qd : Nat) (ad : Nat) (qe : Nat) (ae : Nat) (qo : Nat) (ao : Nat) (r : Nat) (qi : Nat) (ai : Nat) (qs : Nat) (aS : Nat) (qk : Nat) (ak : Nat) (qt : Nat) (aT : Nat) (N : Nat) (K : Nat) (fd : Nat → Int32) (fe : Nat → Int32) (fo : Nat → Int32) (fi : Nat → Int32) (fs : Nat → Int32) (fk : Nat → Int32) (ft : Nat → Int32) (se : Int32) (tc : Int32) (fb : Int32) (up : Int32) (bk : Int32) (last : Int32) (used : Int32) (lod : Int32) (uod : Int32)  : cP l yX2_wrong wsX2_wrong ({ frames := 0, cells := 0, slots := 0, locals := 0 }) dC dI cI cJ [(o, .inr (3, [.int se, .ref qd, .ref qe, .ref qo, .ref r, .int tc, .int fb, .int up, .int bk])), (qd, .inr (1, [.ref ad])), (ad, .inl (cI, N, .inl fd)), (qe, .inr (1, [.ref ae])), (ae, .inl (cI, N, .inl fe)), (qo, .inr (1, [.ref ao])), (ao, .inl (cI, 20, .inl fo)), (r, .inr (2, [.ref qi, .ref qs, .ref qk, .ref qt, .int last, .int used, .int lod, .int uod])), (qi, .inr (1, [.ref ai])), (ai, .inl (cI, N, .inl fi)), (qs, .inr (1, [.ref aS])), (aS, .inl (cI, K, .inl fs)), (qk, .inr (1, [.ref ak])), (ak, .inl (cI, 6, .inl fk)), (qt, .inr (1, [.ref aT])), (aT, .inl (cI, 8, .inl ft))] [.ref o] fb := by
  refine Met.ofW (cc := cX2_wrong) (maxL := 1) (ret := (some .int)) (by decide) rfl ?_
  intro p e s m args below meth c s₁ B hml hv
  obtain ⟨rfl, hP, hK⟩ := hv
  have hx := B.exec
  have hb := B.bytes
  have hr := B.returns
  have hts := atoms_spec (ws := wsX2_wrong) B.pre
  have hown : s.vm.findClass RX2 = some m.cls := findClass_of_methodNamed B.named
  have hlocks := B.notSynchronized
  have inX2 : ∀ w ∈ wsX20, w ∈ wsX2_wrong := fun w h => (List.mem_cons_of_mem _ (List.mem_append_right _ h))
  have fl44 := hts (.fieldLink RX2 44 "StockLog" "foundBehind" "I") (by decide +kernel)
  have hl := lv_entry ([.ref o]) (n := 1) (Nat.le_of_ble_eq_true rfl)
  rw [lg_entry_eq]
  generalize (lg_sl ([.ref o]) ++ List.replicate (1 - (lg_sl ([.ref o])).length) Slot.unset).toArray = ls at hl ⊢
  have hl : lv_has ls 1 [(0, .ref o)] := hl
  refine lv_aload_n hx hb dX2_wrong_0 rfl (lv_at hl 0 rfl) ?_
  refine k_get (ci := 3) (T := TX2) (N := 9) (C := RX2) hx hb hts inX2 hown hK hP 0 rfl rfl 6 (by decide) fl44 rfl rfl dX2_wrong_1 ?_
  exact k_iretP (ret := none) hx hb hr hlocks rfl rfl dX2_wrong_4
