set_option maxHeartbeats 4000000 in
set_option maxRecDepth 100000 in
theorem m_X2_backup (l : Launch) (dC : Nat → ClassId) (dI : Nat → Nat → Nat) (cI cJ : ClassId) (o : Nat) (qd : Nat) (ad : Nat) (qe : Nat) (ae : Nat) (qo : Nat) (ao : Nat) (r : Nat) (qi : Nat) (ai : Nat) (qs : Nat) (aS : Nat) (qk : Nat) (ak : Nat) (qt : Nat) (aT : Nat) (N : Nat) (K : Nat) (fd : Nat → Int32) (fe : Nat → Int32) (fo : Nat → Int32) (fi : Nat → Int32) (fs : Nat → Int32) (fk : Nat → Int32) (ft : Nat → Int32) (se : Int32) (tc : Int32) (fb : Int32) (up : Int32) (bk : Int32) (last : Int32) (used : Int32) (lod : Int32) (uod : Int32) (hN : N < 2 ^ 31) (hK9 : K < 2 ^ 31) (hst : l.stackTraces = false) : cT l yX2_backup wsX2_backup ({ frames := 7, cells := 1, slots := 6, locals := 102 }) dC dI cI cJ [(o, .inr (3, [.int se, .ref qd, .ref qe, .ref qo, .ref r, .int tc, .int fb, .int up, .int bk])), (qd, .inr (1, [.ref ad])), (ad, .inl (cI, N, .inl fd)), (qe, .inr (1, [.ref ae])), (ae, .inl (cI, N, .inl fe)), (qo, .inr (1, [.ref ao])), (ao, .inl (cI, 20, .inl fo)), (r, .inr (2, [.ref qi, .ref qs, .ref qk, .ref qt, .int last, .int used, .int lod, .int uod])), (qi, .inr (1, [.ref ai])), (ai, .inl (cI, N, .inl fi)), (qs, .inr (1, [.ref aS])), (aS, .inl (cI, K, .inl fs)), (qk, .inr (1, [.ref ak])), (ak, .inl (cI, 6, .inl fk)), (qt, .inr (1, [.ref aT])), (aT, .inl (cI, 8, .inl ft))] [(o, .inr (3, [.int se, .ref qd, .ref qe, .ref qo, .ref r, .int tc, .int fb, .int up, .int 1])), (qd, .inr (1, [.ref ad])), (ad, .inl (cI, N, .inl fd)), (qe, .inr (1, [.ref ae])), (ae, .inl (cI, N, .inl (ca_copy N fe N fd 0 (nI N)))), (qo, .inr (1, [.ref ao])), (ao, .inl (cI, 20, .inl fo)), (r, .inr (2, [.ref qi, .ref qs, .ref qk, .ref qt, .int last, .int used, .int lod, .int uod])), (qi, .inr (1, [.ref ai])), (ai, .inl (cI, N, .inl fi)), (qs, .inr (1, [.ref aS])), (aS, .inl (cI, K, .inl fs)), (qk, .inr (1, [.ref ak])), (ak, .inl (cI, 6, .inl fk)), (qt, .inr (1, [.ref aT])), (aT, .inl (cI, 8, .inl ft))] [o, qd, ad, qe, ae, qo, ao, r, qi, ai, qs, aS, qk, ak, qt, aT] [.ref o] (exOne (exDown up)) (some (.int lod)) 1 6 := by
  refine vx_ofW (cc := cX2_backup) (maxL := 1) (ret := (some .int)) (by decide) rfl ?_
  intro p e s m args below meth c s₁ B hml hno hv
  obtain ⟨rfl, hP, hK, hD0, hT, hZ⟩ := hv
  have hx := B.exec
  have hb := B.bytes
  have hr := B.returns
  have hts := atoms_spec (ws := wsX2_backup) B.pre
  have hown : s.vm.findClass RX2 = some m.cls := findClass_of_methodNamed B.named
  have hlocks := B.notSynchronized
  have inX1 : ∀ w ∈ wsX10, w ∈ wsX2_backup := fun w h => (List.mem_cons_of_mem _ (List.mem_append_left _ (List.mem_append_left _ (List.mem_append_right _ h))))
  have inX2 : ∀ w ∈ wsX20, w ∈ wsX2_backup := fun w h => (List.mem_cons_of_mem _ (List.mem_append_left _ (List.mem_append_left _ (List.mem_append_left _ (List.mem_append_right _ h)))))
  have fl27 := hts (.fieldLink RX2 27 "StockLog" "disk" "LStockLog$Cells;") (by decide +kernel)
  have fl31 := hts (.fieldLink RX2 31 "StockLog" "kept" "LStockLog$Cells;") (by decide +kernel)
  have fl40 := hts (.fieldLink RX2 40 "StockLog" "rows" "LStockLog$Rows;") (by decide +kernel)
  have fl158 := hts (.fieldLink RX2 158 "StockLog" "hasBackup" "Z") (by decide +kernel)
  have hD : va_D (mA [o, qd, ad, qe, ae, qo, ao, r, qi, ai, qs, aS, qk, ak, qt, aT]) [(o, .inr (3, [.int se, .ref qd, .ref qe, .ref qo, .ref r, .int tc, .int fb, .int up, .int bk])), (qd, .inr (1, [.ref ad])), (ad, .inl (cI, N, .inl fd)), (qe, .inr (1, [.ref ae])), (ae, .inl (cI, N, .inl fe)), (qo, .inr (1, [.ref ao])), (ao, .inl (cI, 20, .inl fo)), (r, .inr (2, [.ref qi, .ref qs, .ref qk, .ref qt, .int last, .int used, .int lod, .int uod])), (qi, .inr (1, [.ref ai])), (ai, .inl (cI, N, .inl fi)), (qs, .inr (1, [.ref aS])), (aS, .inl (cI, K, .inl fs)), (qk, .inr (1, [.ref ak])), (ak, .inl (cI, 6, .inl fk)), (qt, .inr (1, [.ref aT])), (aT, .inl (cI, 8, .inl ft))] := k_Dw hD0 rfl
  have hS : va_S (mA [o, qd, ad, qe, ae, qo, ao, r, qi, ai, qs, aS, qk, ak, qt, aT]) s.heap s.heap [] := va_S.rf
  have hl := lv_entry ([.ref o]) (n := 1) (Nat.le_of_ble_eq_true rfl)
  rw [lg_entry_eq]
  generalize (lg_sl ([.ref o]) ++ List.replicate (1 - (lg_sl ([.ref o])).length) Slot.unset).toArray = ls at hl ⊢
  have hl : lv_has ls 1 [(0, .ref o)] := hl
  refine lv_aload_n hx hb dX2_backup_0 rfl (lv_at hl 0 rfl) ?_
  refine k_afT (wc := [(o, .inr (3, [.int se, .ref qd, .ref qe, .ref qo, .ref r, .int tc, .int fb, .int up, .int bk]))]) (ws' := [(o, .inr (3, [.int se, .ref qd, .ref qe, .ref qo, .ref r, .int tc, .int fb, .int up, .int bk])), (qd, .inr (1, [.ref ad])), (ad, .inl (cI, N, .inl fd)), (qe, .inr (1, [.ref ae])), (ae, .inl (cI, N, .inl fe)), (qo, .inr (1, [.ref ao])), (ao, .inl (cI, 20, .inl fo)), (r, .inr (2, [.ref qi, .ref qs, .ref qk, .ref qt, .int last, .int used, .int lod, .int uod])), (qi, .inr (1, [.ref ai])), (ai, .inl (cI, N, .inl fi)), (qs, .inr (1, [.ref aS])), (aS, .inl (cI, K, .inl fs)), (qk, .inr (1, [.ref ak])), (ak, .inl (cI, 6, .inl fk)), (qt, .inr (1, [.ref aT])), (aT, .inl (cI, 8, .inl ft))]) (vx_runV (rest := []) ⟨hx, hb, hml, hown, hts⟩ (m_X2_refuseWhenDown l dC dI cI cJ o qd qe qo r se tc fb up bk  hst) (cwV 0 hts gX2_backup_X2_refuseWhenDown rfl rfl rfl hdv_X2_refuseWhenDown ⟨Nat.le_of_ble_eq_true rfl, Nat.le_of_ble_eq_true rfl⟩) (k_preVT hK hP hD hS hT hZ [0] rfl rfl rfl 0 rfl rfl) rfl rfl hl.1 rfl (lv_room (Nat.le_of_ble_eq_true rfl)) dX2_backup_1 ⟨Nat.le_of_ble_eq_true rfl, Nat.le_of_ble_eq_true rfl⟩) hP hD hS [0] rfl rfl rfl rfl (fun E ce q9 H locs x1 hP hS hce hcv hcl => ?_) (fun x1 H locs hP hD hS => ?_)
  · exact k_outT hno hlocks hce hcv hcl hP hS (by simp only [exOne, x1, Option.some_or]) rfl (Nat.le_of_ble_eq_true rfl) (Nat.le_of_ble_eq_true rfl)
  · refine lv_aload_n hx hb dX2_backup_4 rfl (lv_at hl 0 rfl) ?_
    refine k_get (ci := 3) (T := TX2) (N := 9) (C := RX2) hx hb hts inX2 hown hK hP 0 rfl rfl 2 (by decide) fl31 rfl rfl dX2_backup_5 ?_
    refine lv_aload_n hx hb dX2_backup_8 rfl (lv_at hl 0 rfl) ?_
    refine k_get (ci := 3) (T := TX2) (N := 9) (C := RX2) hx hb hts inX2 hown hK hP 0 rfl rfl 1 (by decide) fl27 rfl rfl dX2_backup_9 ?_
    refine lv_iconst (v := 0) hx hb dX2_backup_12 (by decide) ?_
    refine lv_aload_n hx hb dX2_backup_13 rfl (lv_at hl 0 rfl) ?_
    refine k_get (ci := 3) (T := TX2) (N := 9) (C := RX2) hx hb hts inX2 hown hK hP 0 rfl rfl 1 (by decide) fl27 rfl rfl dX2_backup_14 ?_
    refine k_afP (va_runV (rest := [.int 0, .ref qd, .ref qe]) ⟨hx, hb, hml, hown, hts⟩ (m_X0_length l dC dI cI cJ qd ad N fd ) (cwV 0 hts gX2_backup_X0_length rfl rfl rfl hdv_X0_length ⟨Nat.le_of_ble_eq_true rfl, Nat.le_of_ble_eq_true rfl⟩) (k_preVP hK hP [1, 2] rfl 1 rfl rfl) rfl rfl hl.1 rfl (lv_room (Nat.le_of_ble_eq_true rfl)) dX2_backup_17 ⟨Nat.le_of_ble_eq_true rfl, Nat.le_of_ble_eq_true rfl⟩) ?_
    refine k_afW (wc := [(qe, .inr (1, [.ref ae])), (ae, .inl (cI, N, .inl fe)), (qd, .inr (1, [.ref ad])), (ad, .inl (cI, N, .inl fd))]) (ws' := [(o, .inr (3, [.int se, .ref qd, .ref qe, .ref qo, .ref r, .int tc, .int fb, .int up, .int bk])), (qd, .inr (1, [.ref ad])), (ad, .inl (cI, N, .inl fd)), (qe, .inr (1, [.ref ae])), (ae, .inl (cI, N, .inl (ca_copy N fe N fd 0 (nI N)))), (qo, .inr (1, [.ref ao])), (ao, .inl (cI, 20, .inl fo)), (r, .inr (2, [.ref qi, .ref qs, .ref qk, .ref qt, .int last, .int used, .int lod, .int uod])), (qi, .inr (1, [.ref ai])), (ai, .inl (cI, N, .inl fi)), (qs, .inr (1, [.ref aS])), (aS, .inl (cI, K, .inl fs)), (qk, .inr (1, [.ref ak])), (ak, .inl (cI, 6, .inl fk)), (qt, .inr (1, [.ref aT])), (aT, .inl (cI, 8, .inl ft))]) (va_runV (rest := []) ⟨hx, hb, hml, hown, hts⟩ (m_X0_copy l dC dI cI cJ qe ae N fe qd ad N fd 0 (nI N) (by first | assumption | decide) (by first | assumption | decide)) (cwV 3 hts gX2_backup_X0_copy rfl rfl rfl hdv_X0_copy ⟨Nat.le_of_ble_eq_true rfl, Nat.le_of_ble_eq_true rfl⟩) (k_preVW hK hP hD [3, 4, 1, 2] rfl rfl 3 rfl rfl) rfl rfl hl.1 rfl (lv_room (Nat.le_of_ble_eq_true rfl)) dX2_backup_20 ⟨Nat.le_of_ble_eq_true rfl, Nat.le_of_ble_eq_true rfl⟩) hP hD hS [3, 4, 1, 2] rfl rfl rfl rfl (fun H locs hP hD hS => ?_)
    refine lv_aload_n hx hb dX2_backup_23 rfl (lv_at hl 0 rfl) ?_
    refine lv_iconst (v := 1) hx hb dX2_backup_24 (by decide) ?_
    refine k_putf (ws' := [(o, .inr (3, [.int se, .ref qd, .ref qe, .ref qo, .ref r, .int tc, .int fb, .int up, .int 1])), (qd, .inr (1, [.ref ad])), (ad, .inl (cI, N, .inl fd)), (qe, .inr (1, [.ref ae])), (ae, .inl (cI, N, .inl (ca_copy N fe N fd 0 (nI N)))), (qo, .inr (1, [.ref ao])), (ao, .inl (cI, 20, .inl fo)), (r, .inr (2, [.ref qi, .ref qs, .ref qk, .ref qt, .int last, .int used, .int lod, .int uod])), (qi, .inr (1, [.ref ai])), (ai, .inl (cI, N, .inl fi)), (qs, .inr (1, [.ref aS])), (aS, .inl (cI, K, .inl fs)), (qk, .inr (1, [.ref ak])), (ak, .inl (cI, 6, .inl fk)), (qt, .inr (1, [.ref aT])), (aT, .inl (cI, 8, .inl ft))]) (ci := 3) (T := TX2) (N := 9) (C := RX2) (ty := .boolean) hx hb hts inX2 tyX2 tyX2_ok nmX2 hown hK hP hD hS 0 rfl rfl 8 (by decide) fl158 rfl rfl rfl rfl rfl (Nat.le_of_ble_eq_true rfl) dX2_backup_25 rfl (fun H locs hP hD hS => ?_)
    refine lv_aload_n hx hb dX2_backup_28 rfl (lv_at hl 0 rfl) ?_
    refine k_get (ci := 3) (T := TX2) (N := 9) (C := RX2) hx hb hts inX2 hown hK hP 0 rfl rfl 4 (by decide) fl40 rfl rfl dX2_backup_29 ?_
    refine k_getN (host := "StockLog") (ci := 2) (T := TX1) (N := 8) (C := RX1) hx hb hts inX1 hown hK hP 7 rfl rfl 6 (by decide) (by decide +kernel) rfl rfl dX2_backup_32 ?_
    exact k_iretT hx hb hr hlocks hP hS (by simp only [exOne, x1, Option.none_or]) rfl rfl (Nat.le_of_ble_eq_true rfl) (Nat.le_of_ble_eq_true rfl) dX2_backup_35
set_option maxHeartbeats 4000000 in
set_option maxRecDepth 100000 in
theorem m_X2_restore (l : Launch) (dC : Nat → ClassId) (dI : Nat → Nat → Nat) (cI cJ : ClassId) (o : Nat) (qd : Nat) (ad : Nat) (qe : Nat) (ae : Nat) (qo : Nat) (ao : Nat) (r : Nat) (qi : Nat) (ai : Nat) (qs : Nat) (aS : Nat) (qk : Nat) (ak : Nat) (qt : Nat) (aT : Nat) (N : Nat) (K : Nat) (fd : Nat → Int32) (fe : Nat → Int32) (fo : Nat → Int32) (fi : Nat → Int32) (fs : Nat → Int32) (fk : Nat → Int32) (ft : Nat → Int32) (se : Int32) (tc : Int32) (fb : Int32) (up : Int32) (bk : Int32) (last : Int32) (used : Int32) (lod : Int32) (uod : Int32) (hN : N < 2 ^ 31) (hK9 : K < 2 ^ 31) (hlast : last < 2147483647) (hst : l.stackTraces = false) : cT l yX2_restore wsX2_restore ({ frames := 6, cells := 1, slots := 6, locals := 135 }) dC dI cI cJ [(o, .inr (3, [.int se, .ref qd, .ref qe, .ref qo, .ref r, .int tc, .int fb, .int up, .int bk])), (qd, .inr (1, [.ref ad])), (ad, .inl (cI, N, .inl fd)), (qe, .inr (1, [.ref ae])), (ae, .inl (cI, N, .inl fe)), (qo, .inr (1, [.ref ao])), (ao, .inl (cI, 20, .inl fo)), (r, .inr (2, [.ref qi, .ref qs, .ref qk, .ref qt, .int last, .int used, .int lod, .int uod])), (qi, .inr (1, [.ref ai])), (ai, .inl (cI, N, .inl fi)), (qs, .inr (1, [.ref aS])), (aS, .inl (cI, K, .inl fs)), (qk, .inr (1, [.ref ak])), (ak, .inl (cI, 6, .inl fk)), (qt, .inr (1, [.ref aT])), (aT, .inl (cI, 8, .inl ft))] [(o, .inr (3, [.int se, .ref qd, .ref qe, .ref qo, .ref r, .int 0, .int ((sl_read N K (ca_copy N fd N fe 0 (nI N)) fi fs fk last).2), .int 1, .int bk])), (qd, .inr (1, [.ref ad])), (ad, .inl (cI, N, .inl (ca_copy N fd N fe 0 (nI N)))), (qe, .inr (1, [.ref ae])), (ae, .inl (cI, N, .inl fe)), (qo, .inr (1, [.ref ao])), (ao, .inl (cI, 20, .inl fo)), (r, .inr (2, [.ref qi, .ref qs, .ref qk, .ref qt, .int ((sl_read N K (ca_copy N fd N fe 0 (nI N)) fi fs fk last).1.2.2.2.1), .int ((sl_read N K (ca_copy N fd N fe 0 (nI N)) fi fs fk last).1.2.2.2.2), .int ((sl_read N K (ca_copy N fd N fe 0 (nI N)) fi fs fk last).1.2.2.2.1), .int ((sl_read N K (ca_copy N fd N fe 0 (nI N)) fi fs fk last).1.2.2.2.2)])), (qi, .inr (1, [.ref ai])), (ai, .inl (cI, N, .inl ((sl_read N K (ca_copy N fd N fe 0 (nI N)) fi fs fk last).1.1))), (qs, .inr (1, [.ref aS])), (aS, .inl (cI, K, .inl ((sl_read N K (ca_copy N fd N fe 0 (nI N)) fi fs fk last).1.2.1))), (qk, .inr (1, [.ref ak])), (ak, .inl (cI, 6, .inl ((sl_read N K (ca_copy N fd N fe 0 (nI N)) fi fs fk last).1.2.2.1))), (qt, .inr (1, [.ref aT])), (aT, .inl (cI, 8, .inl ft))] [o, qd, ad, qe, ae, qo, ao, r, qi, ai, qs, aS, qk, ak, qt, aT] [.ref o] (exRestore bk) (some (.int ((sl_read N K (ca_copy N fd N fe 0 (nI N)) fi fs fk last).1.2.2.2.1))) 1 6 := by
  refine vx_ofW (cc := cX2_restore) (maxL := 1) (ret := (some .int)) (by decide) rfl ?_
  intro p e s m args below meth c s₁ B hml hno hv
  obtain ⟨rfl, hP, hK, hD0, hT, hZ⟩ := hv
  have hx := B.exec
  have hb := B.bytes
  have hr := B.returns
  have hts := atoms_spec (ws := wsX2_restore) B.pre
  have hown : s.vm.findClass RX2 = some m.cls := findClass_of_methodNamed B.named
  have hlocks := B.notSynchronized
  have inX2 : ∀ w ∈ wsX20, w ∈ wsX2_restore := fun w h => (List.mem_cons_of_mem _ (List.mem_append_left _ (List.mem_append_left _ (List.mem_append_left _ (List.mem_append_right _ h)))))
  have xkISE := hts (.classLink RX2 161 xISE) (by decide +kernel)
  have xiISE := hts (.initialized xISE) (by decide +kernel)
  have xhISE := vx_hat (fun w h => hts w (List.mem_cons_of_mem _ (List.mem_append_right _ h))) xbISE (fun w h => va_Nw.use (gXW_on w h) (hT.1 w h))
  have fl27 := hts (.fieldLink RX2 27 "StockLog" "disk" "LStockLog$Cells;") (by decide +kernel)
  have fl31 := hts (.fieldLink RX2 31 "StockLog" "kept" "LStockLog$Cells;") (by decide +kernel)
  have fl158 := hts (.fieldLink RX2 158 "StockLog" "hasBackup" "Z") (by decide +kernel)
  have hD : va_D (mA [o, qd, ad, qe, ae, qo, ao, r, qi, ai, qs, aS, qk, ak, qt, aT]) [(o, .inr (3, [.int se, .ref qd, .ref qe, .ref qo, .ref r, .int tc, .int fb, .int up, .int bk])), (qd, .inr (1, [.ref ad])), (ad, .inl (cI, N, .inl fd)), (qe, .inr (1, [.ref ae])), (ae, .inl (cI, N, .inl fe)), (qo, .inr (1, [.ref ao])), (ao, .inl (cI, 20, .inl fo)), (r, .inr (2, [.ref qi, .ref qs, .ref qk, .ref qt, .int last, .int used, .int lod, .int uod])), (qi, .inr (1, [.ref ai])), (ai, .inl (cI, N, .inl fi)), (qs, .inr (1, [.ref aS])), (aS, .inl (cI, K, .inl fs)), (qk, .inr (1, [.ref ak])), (ak, .inl (cI, 6, .inl fk)), (qt, .inr (1, [.ref aT])), (aT, .inl (cI, 8, .inl ft))] := k_Dw hD0 rfl
  have hS : va_S (mA [o, qd, ad, qe, ae, qo, ao, r, qi, ai, qs, aS, qk, ak, qt, aT]) s.heap s.heap [] := va_S.rf
  have hl := lv_entry ([.ref o]) (n := 1) (Nat.le_of_ble_eq_true rfl)
  rw [lg_entry_eq]
  generalize (lg_sl ([.ref o]) ++ List.replicate (1 - (lg_sl ([.ref o])).length) Slot.unset).toArray = ls at hl ⊢
  have hl : lv_has ls 1 [(0, .ref o)] := hl
  refine lv_aload_n hx hb dX2_restore_0 rfl (lv_at hl 0 rfl) ?_
  refine k_get (ci := 3) (T := TX2) (N := 9) (C := RX2) hx hb hts inX2 hown hK hP 0 rfl rfl 8 (by decide) fl158 rfl rfl dX2_restore_1 ?_
  refine lv_if_ne (tgt := 17) hx hb dX2_restore_4 (by decide) (fun c1 => ?_) (fun c1 => ?_)
  · refine lv_aload_n hx hb dX2_restore_17 rfl (lv_at hl 0 rfl) ?_
    refine k_get (ci := 3) (T := TX2) (N := 9) (C := RX2) hx hb hts inX2 hown hK hP 0 rfl rfl 1 (by decide) fl27 rfl rfl dX2_restore_18 ?_
    refine lv_aload_n hx hb dX2_restore_21 rfl (lv_at hl 0 rfl) ?_
    refine k_get (ci := 3) (T := TX2) (N := 9) (C := RX2) hx hb hts inX2 hown hK hP 0 rfl rfl 2 (by decide) fl31 rfl rfl dX2_restore_22 ?_
    refine lv_iconst (v := 0) hx hb dX2_restore_25 (by decide) ?_
    refine lv_aload_n hx hb dX2_restore_26 rfl (lv_at hl 0 rfl) ?_
    refine k_get (ci := 3) (T := TX2) (N := 9) (C := RX2) hx hb hts inX2 hown hK hP 0 rfl rfl 2 (by decide) fl31 rfl rfl dX2_restore_27 ?_
    refine k_afP (va_runV (rest := [.int 0, .ref qe, .ref qd]) ⟨hx, hb, hml, hown, hts⟩ (m_X0_length l dC dI cI cJ qe ae N fe ) (cwV 0 hts gX2_restore_X0_length rfl rfl rfl hdv_X0_length ⟨Nat.le_of_ble_eq_true rfl, Nat.le_of_ble_eq_true rfl⟩) (k_preVP hK hP [3, 4] rfl 3 rfl rfl) rfl rfl hl.1 rfl (lv_room (Nat.le_of_ble_eq_true rfl)) dX2_restore_30 ⟨Nat.le_of_ble_eq_true rfl, Nat.le_of_ble_eq_true rfl⟩) ?_
    refine k_afW (wc := [(qd, .inr (1, [.ref ad])), (ad, .inl (cI, N, .inl fd)), (qe, .inr (1, [.ref ae])), (ae, .inl (cI, N, .inl fe))]) (ws' := [(o, .inr (3, [.int se, .ref qd, .ref qe, .ref qo, .ref r, .int tc, .int fb, .int up, .int bk])), (qd, .inr (1, [.ref ad])), (ad, .inl (cI, N, .inl (ca_copy N fd N fe 0 (nI N)))), (qe, .inr (1, [.ref ae])), (ae, .inl (cI, N, .inl fe)), (qo, .inr (1, [.ref ao])), (ao, .inl (cI, 20, .inl fo)), (r, .inr (2, [.ref qi, .ref qs, .ref qk, .ref qt, .int last, .int used, .int lod, .int uod])), (qi, .inr (1, [.ref ai])), (ai, .inl (cI, N, .inl fi)), (qs, .inr (1, [.ref aS])), (aS, .inl (cI, K, .inl fs)), (qk, .inr (1, [.ref ak])), (ak, .inl (cI, 6, .inl fk)), (qt, .inr (1, [.ref aT])), (aT, .inl (cI, 8, .inl ft))]) (va_runV (rest := []) ⟨hx, hb, hml, hown, hts⟩ (m_X0_copy l dC dI cI cJ qd ad N fd qe ae N fe 0 (nI N) (by first | assumption | decide) (by first | assumption | decide)) (cwV 3 hts gX2_restore_X0_copy rfl rfl rfl hdv_X0_copy ⟨Nat.le_of_ble_eq_true rfl, Nat.le_of_ble_eq_true rfl⟩) (k_preVW hK hP hD [1, 2, 3, 4] rfl rfl 1 rfl rfl) rfl rfl hl.1 rfl (lv_room (Nat.le_of_ble_eq_true rfl)) dX2_restore_33 ⟨Nat.le_of_ble_eq_true rfl, Nat.le_of_ble_eq_true rfl⟩) hP hD hS [1, 2, 3, 4] rfl rfl rfl rfl (fun H locs hP hD hS => ?_)
    refine lv_aload_n hx hb dX2_restore_36 rfl (lv_at hl 0 rfl) ?_
    refine k_afW (wc := [(o, .inr (3, [.int se, .ref qd, .ref qe, .ref qo, .ref r, .int tc, .int fb, .int up, .int bk])), (qd, .inr (1, [.ref ad])), (ad, .inl (cI, N, .inl (ca_copy N fd N fe 0 (nI N)))), (qe, .inr (1, [.ref ae])), (ae, .inl (cI, N, .inl fe)), (qo, .inr (1, [.ref ao])), (ao, .inl (cI, 20, .inl fo)), (r, .inr (2, [.ref qi, .ref qs, .ref qk, .ref qt, .int last, .int used, .int lod, .int uod])), (qi, .inr (1, [.ref ai])), (ai, .inl (cI, N, .inl fi)), (qs, .inr (1, [.ref aS])), (aS, .inl (cI, K, .inl fs)), (qk, .inr (1, [.ref ak])), (ak, .inl (cI, 6, .inl fk)), (qt, .inr (1, [.ref aT])), (aT, .inl (cI, 8, .inl ft))]) (ws' := [(o, .inr (3, [.int se, .ref qd, .ref qe, .ref qo, .ref r, .int 0, .int ((sl_read N K (ca_copy N fd N fe 0 (nI N)) fi fs fk last).2), .int 1, .int bk])), (qd, .inr (1, [.ref ad])), (ad, .inl (cI, N, .inl (ca_copy N fd N fe 0 (nI N)))), (qe, .inr (1, [.ref ae])), (ae, .inl (cI, N, .inl fe)), (qo, .inr (1, [.ref ao])), (ao, .inl (cI, 20, .inl fo)), (r, .inr (2, [.ref qi, .ref qs, .ref qk, .ref qt, .int ((sl_read N K (ca_copy N fd N fe 0 (nI N)) fi fs fk last).1.2.2.2.1), .int ((sl_read N K (ca_copy N fd N fe 0 (nI N)) fi fs fk last).1.2.2.2.2), .int ((sl_read N K (ca_copy N fd N fe 0 (nI N)) fi fs fk last).1.2.2.2.1), .int ((sl_read N K (ca_copy N fd N fe 0 (nI N)) fi fs fk last).1.2.2.2.2)])), (qi, .inr (1, [.ref ai])), (ai, .inl (cI, N, .inl ((sl_read N K (ca_copy N fd N fe 0 (nI N)) fi fs fk last).1.1))), (qs, .inr (1, [.ref aS])), (aS, .inl (cI, K, .inl ((sl_read N K (ca_copy N fd N fe 0 (nI N)) fi fs fk last).1.2.1))), (qk, .inr (1, [.ref ak])), (ak, .inl (cI, 6, .inl ((sl_read N K (ca_copy N fd N fe 0 (nI N)) fi fs fk last).1.2.2.1))), (qt, .inr (1, [.ref aT])), (aT, .inl (cI, 8, .inl ft))]) (va_runV (rest := []) ⟨hx, hb, hml, hown, hts⟩ (m_X2_readDisk l dC dI cI cJ o qd ad qe ae qo ao r qi ai qs aS qk ak qt aT N K (ca_copy N fd N fe 0 (nI N)) fe fo fi fs fk ft se tc fb up bk last used lod uod (by first | assumption | decide) (by first | assumption | decide) (by first | assumption | decide)) (cwV 0 hts gX2_restore_X2_readDisk rfl rfl rfl hdv_X2_readDisk ⟨Nat.le_of_ble_eq_true rfl, Nat.le_of_ble_eq_true rfl⟩) (k_preVW hK hP hD [0, 1, 2, 3, 4, 5, 6, 7, 8, 9, 10, 11, 12, 13, 14, 15] rfl rfl 0 rfl rfl) rfl rfl hl.1 rfl (lv_room (Nat.le_of_ble_eq_true rfl)) dX2_restore_37 ⟨Nat.le_of_ble_eq_true rfl, Nat.le_of_ble_eq_true rfl⟩) hP hD hS [0, 1, 2, 3, 4, 5, 6, 7, 8, 9, 10, 11, 12, 13, 14, 15] rfl rfl rfl rfl (fun H locs hP hD hS => ?_)
    exact k_iretT hx hb hr hlocks hP hS (by simp only [exRestore, if_neg c1]) rfl rfl (Nat.le_of_ble_eq_true rfl) (Nat.le_of_ble_eq_true rfl) dX2_restore_40
  · exact k_throw (text := "there is no backup") (names := xNISE) hx hb hst hown (by decide +kernel) (by decide +kernel) xkISE xiISE xhISE xgISE hT (by decide +kernel) hZ hP hS (hl.1.trans hml.symm) dX2_restore_7 dX2_restore_10 dX2_restore_11 dX2_restore_13 dX2_restore_16 hno (Nat.le_of_ble_eq_true rfl) (Nat.le_of_ble_eq_true rfl) (Nat.le_of_ble_eq_true rfl) (Nat.le_of_ble_eq_true rfl) hlocks (by simp only [exRestore, if_pos c1]) rfl (Nat.le_of_ble_eq_true rfl) (Nat.le_of_ble_eq_true rfl)
set_option maxHeartbeats 4000000 in
set_option maxRecDepth 100000 in
theorem m_X2_total (l : Launch) (dC : Nat → ClassId) (dI : Nat → Nat → Nat) (cI cJ : ClassId) (o : Nat) (qd : Nat) (ad : Nat) (qe : Nat) (ae : Nat) (qo : Nat) (ao : Nat) (r : Nat) (qi : Nat) (ai : Nat) (qs : Nat) (aS : Nat) (qk : Nat) (ak : Nat) (qt : Nat) (aT : Nat) (N : Nat) (K : Nat) (fd : Nat → Int32) (fe : Nat → Int32) (fo : Nat → Int32) (fi : Nat → Int32) (fs : Nat → Int32) (fk : Nat → Int32) (ft : Nat → Int32) (se : Int32) (tc : Int32) (fb : Int32) (up : Int32) (bk : Int32) (last : Int32) (used : Int32) (lod : Int32) (uod : Int32) (kind : Int32) (from_ : Int32) (to_ : Int32) (hN : N < 2 ^ 31) (hK9 : K < 2 ^ 31) (hlast : last < 2147483647) (hst : l.stackTraces = false) : cT l yX2_total wsX2_total ({ frames := 7, cells := 1, slots := 6, locals := 103 }) dC dI cI cJ [(o, .inr (3, [.int se, .ref qd, .ref qe, .ref qo, .ref r, .int tc, .int fb, .int up, .int bk])), (qd, .inr (1, [.ref ad])), (ad, .inl (cI, N, .inl fd)), (qe, .inr (1, [.ref ae])), (ae, .inl (cI, N, .inl fe)), (qo, .inr (1, [.ref ao])), (ao, .inl (cI, 20, .inl fo)), (r, .inr (2, [.ref qi, .ref qs, .ref qk, .ref qt, .int last, .int used, .int lod, .int uod])), (qi, .inr (1, [.ref ai])), (ai, .inl (cI, N, .inl fi)), (qs, .inr (1, [.ref aS])), (aS, .inl (cI, K, .inl fs)), (qk, .inr (1, [.ref ak])), (ak, .inl (cI, 6, .inl fk)), (qt, .inr (1, [.ref aT])), (aT, .inl (cI, 8, .inl ft))] [(o, .inr (3, [.int se, .ref qd, .ref qe, .ref qo, .ref r, .int tc, .int fb, .int up, .int bk])), (qd, .inr (1, [.ref ad])), (ad, .inl (cI, N, .inl fd)), (qe, .inr (1, [.ref ae])), (ae, .inl (cI, N, .inl fe)), (qo, .inr (1, [.ref ao])), (ao, .inl (cI, 20, .inl fo)), (r, .inr (2, [.ref qi, .ref qs, .ref qk, .ref qt, .int last, .int used, .int lod, .int uod])), (qi, .inr (1, [.ref ai])), (ai, .inl (cI, N, .inl fi)), (qs, .inr (1, [.ref aS])), (aS, .inl (cI, K, .inl fs)), (qk, .inr (1, [.ref ak])), (ak, .inl (cI, 6, .inl fk)), (qt, .inr (1, [.ref aT])), (aT, .inl (cI, 8, .inl ft))] [o, qd, ad, qe, ae, qo, ao, r, qi, ai, qs, aS, qk, ak, qt, aT] [.ref o, .int kind, .int from_, .int to_] (exOne (exKind kind)) (some (.int (sl_total N K fi fs last kind from_ to_))) 1 6 := by
  refine vx_ofW (cc := cX2_total) (maxL := 8) (ret := (some .int)) (by decide) rfl ?_
  intro p e s m args below meth c s₁ B hml hno hv
  obtain ⟨rfl, hP, hK, hD0, hT, hZ⟩ := hv
  have hx := B.exec
  have hb := B.bytes
  have hr := B.returns
  have hts := atoms_spec (ws := wsX2_total) B.pre
  have hown : s.vm.findClass RX2 = some m.cls := findClass_of_methodNamed B.named
  have hlocks := B.notSynchronized
  have inX1 : ∀ w ∈ wsX10, w ∈ wsX2_total := fun w h => (List.mem_cons_of_mem _ (List.mem_append_left _ (List.mem_append_left _ (List.mem_append_right _ h))))
  have inX2 : ∀ w ∈ wsX20, w ∈ wsX2_total := fun w h => (List.mem_cons_of_mem _ (List.mem_append_left _ (List.mem_append_left _ (List.mem_append_left _ (List.mem_append_right _ h)))))
  have fl40 := hts (.fieldLink RX2 40 "StockLog" "rows" "LStockLog$Rows;") (by decide +kernel)
  have hD : va_D (mA [o, qd, ad, qe, ae, qo, ao, r, qi, ai, qs, aS, qk, ak, qt, aT]) [(o, .inr (3, [.int se, .ref qd, .ref qe, .ref qo, .ref r, .int tc, .int fb, .int up, .int bk])), (qd, .inr (1, [.ref ad])), (ad, .inl (cI, N, .inl fd)), (qe, .inr (1, [.ref ae])), (ae, .inl (cI, N, .inl fe)), (qo, .inr (1, [.ref ao])), (ao, .inl (cI, 20, .inl fo)), (r, .inr (2, [.ref qi, .ref qs, .ref qk, .ref qt, .int last, .int used, .int lod, .int uod])), (qi, .inr (1, [.ref ai])), (ai, .inl (cI, N, .inl fi)), (qs, .inr (1, [.ref aS])), (aS, .inl (cI, K, .inl fs)), (qk, .inr (1, [.ref ak])), (ak, .inl (cI, 6, .inl fk)), (qt, .inr (1, [.ref aT])), (aT, .inl (cI, 8, .inl ft))] := k_Dw hD0 rfl
  have hS : va_S (mA [o, qd, ad, qe, ae, qo, ao, r, qi, ai, qs, aS, qk, ak, qt, aT]) s.heap s.heap [] := va_S.rf
  have hl := lv_entry ([.ref o, .int kind, .int from_, .int to_]) (n := 8) (Nat.le_of_ble_eq_true rfl)
  rw [lg_entry_eq]
  generalize (lg_sl ([.ref o, .int kind, .int from_, .int to_]) ++ List.replicate (8 - (lg_sl ([.ref o, .int kind, .int from_, .int to_])).length) Slot.unset).toArray = ls at hl ⊢
  have hl : lv_has ls 8 [(0, .ref o), (1, .int kind), (2, .int from_), (3, .int to_)] := hl
  refine lv_aload_n hx hb dX2_total_0 rfl (lv_at hl 0 rfl) ?_
  refine lv_iload_n hx hb dX2_total_1 rfl (lv_at hl 1 rfl) ?_
  refine k_afT (wc := [(o, .inr (3, [.int se, .ref qd, .ref qe, .ref qo, .ref r, .int tc, .int fb, .int up, .int bk]))]) (ws' := [(o, .inr (3, [.int se, .ref qd, .ref qe, .ref qo, .ref r, .int tc, .int fb, .int up, .int bk])), (qd, .inr (1, [.ref ad])), (ad, .inl (cI, N, .inl fd)), (qe, .inr (1, [.ref ae])), (ae, .inl (cI, N, .inl fe)), (qo, .inr (1, [.ref ao])), (ao, .inl (cI, 20, .inl fo)), (r, .inr (2, [.ref qi, .ref qs, .ref qk, .ref qt, .int last, .int used, .int lod, .int uod])), (qi, .inr (1, [.ref ai])), (ai, .inl (cI, N, .inl fi)), (qs, .inr (1, [.ref aS])), (aS, .inl (cI, K, .inl fs)), (qk, .inr (1, [.ref ak])), (ak, .inl (cI, 6, .inl fk)), (qt, .inr (1, [.ref aT])), (aT, .inl (cI, 8, .inl ft))]) (vx_runV (rest := []) ⟨hx, hb, hml, hown, hts⟩ (m_X2_refuseOtherKind l dC dI cI cJ o qd qe qo r se tc fb up bk kind  hst) (cwV 1 hts gX2_total_X2_refuseOtherKind rfl rfl rfl hdv_X2_refuseOtherKind ⟨Nat.le_of_ble_eq_true rfl, Nat.le_of_ble_eq_true rfl⟩) (k_preVT hK hP hD hS hT hZ [0] rfl rfl rfl 0 rfl rfl) rfl rfl hl.1 rfl (lv_room (Nat.le_of_ble_eq_true rfl)) dX2_total_2 ⟨Nat.le_of_ble_eq_true rfl, Nat.le_of_ble_eq_true rfl⟩) hP hD hS [0] rfl rfl rfl rfl (fun E ce q9 H locs x1 hP hS hce hcv hcl => ?_) (fun x1 H locs hP hD hS => ?_)
  · exact k_outT hno hlocks hce hcv hcl hP hS (by simp only [exOne, x1, Option.some_or]) rfl (Nat.le_of_ble_eq_true rfl) (Nat.le_of_ble_eq_true rfl)
  · refine lv_iconst (v := 1) hx hb dX2_total_5 (by decide) ?_
    refine lv_iload_n hx hb dX2_total_6 rfl (lv_at hl 2 rfl) ?_
    refine va_mmax hx hb (hml.trans hl.1.symm) hown (hts (.methodLink RX2 15 Lib.Math.max.name) (by decide +kernel)) (hts (.static Lib.Math.max.name) (by decide +kernel)) (hts (.initialized "java/lang/Math") (by decide +kernel)) (hts (.code Lib.Math.max.name Lib.Math.max.code 2 (some .int)) (by decide +kernel)) (Nat.le_of_ble_eq_true rfl) (Nat.le_of_ble_eq_true rfl) (Nat.le_of_ble_eq_true rfl) (Nat.le_of_ble_eq_true rfl) dX2_total_7 ?_
    refine lv_istore (lv' := [(4, .int (mmax 1 from_)), (0, .ref o), (1, .int kind), (2, .int from_), (3, .int to_)]) hx hb dX2_total_10 hl (by decide) rfl (fun ls hl => ?_)
    refine lv_aload_n hx hb dX2_total_12 rfl (lv_at hl 1 rfl) ?_
    refine k_get (ci := 3) (T := TX2) (N := 9) (C := RX2) hx hb hts inX2 hown hK hP 0 rfl rfl 4 (by decide) fl40 rfl rfl dX2_total_13 ?_
    refine k_getN (host := "StockLog") (ci := 2) (T := TX1) (N := 8) (C := RX1) hx hb hts inX1 hown hK hP 7 rfl rfl 4 (by decide) (by decide +kernel) rfl rfl dX2_total_16 ?_
    refine lv_iload_n hx hb dX2_total_19 rfl (lv_at hl 4 rfl) ?_
    refine va_mmin hx hb (hml.trans hl.1.symm) hown (hts (.methodLink RX2 9 Lib.Math.min.name) (by decide +kernel)) (hts (.static Lib.Math.min.name) (by decide +kernel)) (hts (.initialized "java/lang/Math") (by decide +kernel)) (hts (.code Lib.Math.min.name Lib.Math.min.code 2 (some .int)) (by decide +kernel)) (Nat.le_of_ble_eq_true rfl) (Nat.le_of_ble_eq_true rfl) (Nat.le_of_ble_eq_true rfl) (Nat.le_of_ble_eq_true rfl) dX2_total_20 ?_
    refine lv_istore (lv' := [(5, .int (mmin last to_)), (4, .int (mmax 1 from_)), (0, .ref o), (1, .int kind), (2, .int from_), (3, .int to_)]) hx hb dX2_total_23 hl (by decide) rfl (fun ls hl => ?_)
    refine lv_iconst (v := 0) hx hb dX2_total_25 (by decide) ?_
    refine lv_istore (lv' := [(6, .int 0), (5, .int (mmin last to_)), (4, .int (mmax 1 from_)), (0, .ref o), (1, .int kind), (2, .int from_), (3, .int to_)]) hx hb dX2_total_26 hl (by decide) rfl (fun ls hl => ?_)
    refine lv_iload hx hb dX2_total_28 (lv_at hl 2 rfl) ?_
    refine lv_istore (lv' := [(7, .int (mmax 1 from_)), (6, .int 0), (5, .int (mmin last to_)), (4, .int (mmax 1 from_)), (0, .ref o), (1, .int kind), (2, .int from_), (3, .int to_)]) hx hb dX2_total_30 hl (by decide) rfl (fun ls hl => ?_)
    have loop32 : ∀ (n : Nat) (number : Int32) (x : Int32) (H : Heap) (locs : List Loc) (ls : Array Slot), (loopE ((mmin last to_) + 1) (fun number (x : Int32) => sl_tstep N K fi fs kind number x) id number x = sl_total N K fi fs last kind from_ to_) → (((mmin last to_) + 1).toInt - number.toInt).toNat < n → va_P (dC, dI) vwCl [(o, .inr (3, [.int se, .ref qd, .ref qe, .ref qo, .ref r, .int tc, .int fb, .int up, .int bk])), (qd, .inr (1, [.ref ad])), (ad, .inl (cI, N, .inl fd)), (qe, .inr (1, [.ref ae])), (ae, .inl (cI, N, .inl fe)), (qo, .inr (1, [.ref ao])), (ao, .inl (cI, 20, .inl fo)), (r, .inr (2, [.ref qi, .ref qs, .ref qk, .ref qt, .int last, .int used, .int lod, .int uod])), (qi, .inr (1, [.ref ai])), (ai, .inl (cI, N, .inl fi)), (qs, .inr (1, [.ref aS])), (aS, .inl (cI, K, .inl fs)), (qk, .inr (1, [.ref ak])), (ak, .inl (cI, 6, .inl fk)), (qt, .inr (1, [.ref aT])), (aT, .inl (cI, 8, .inl ft))] H → va_D (mA [o, qd, ad, qe, ae, qo, ao, r, qi, ai, qs, aS, qk, ak, qt, aT]) [(o, .inr (3, [.int se, .ref qd, .ref qe, .ref qo, .ref r, .int tc, .int fb, .int up, .int bk])), (qd, .inr (1, [.ref ad])), (ad, .inl (cI, N, .inl fd)), (qe, .inr (1, [.ref ae])), (ae, .inl (cI, N, .inl fe)), (qo, .inr (1, [.ref ao])), (ao, .inl (cI, 20, .inl fo)), (r, .inr (2, [.ref qi, .ref qs, .ref qk, .ref qt, .int last, .int used, .int lod, .int uod])), (qi, .inr (1, [.ref ai])), (ai, .inl (cI, N, .inl fi)), (qs, .inr (1, [.ref aS])), (aS, .inl (cI, K, .inl fs)), (qk, .inr (1, [.ref ak])), (ak, .inl (cI, 6, .inl fk)), (qt, .inr (1, [.ref aT])), (aT, .inl (cI, 8, .inl ft))] → va_S (mA [o, qd, ad, qe, ae, qo, ao, r, qi, ai, qs, aS, qk, ak, qt, aT]) s.heap H locs → lv_has ls 8 [(7, .int number), (6, .int x), (5, .int (mmin last to_)), (4, .int (mmax 1 from_)), (0, .ref o), (1, .int kind), (2, .int from_), (3, .int to_)] → W p l e (headSpec wsX2_total ({ frames := 7, cells := 1, slots := 6, locals := 103 })).room s m ([.ref o, .int kind, .int from_, .int to_] : List Value).toArray below meth c H locs 1 6 (vx_MQ below (tQ dC dI (exOne (exKind kind)) [(o, .inr (3, [.int se, .ref qd, .ref qe, .ref qo, .ref r, .int tc, .int fb, .int up, .int bk])), (qd, .inr (1, [.ref ad])), (ad, .inl (cI, N, .inl fd)), (qe, .inr (1, [.ref ae])), (ae, .inl (cI, N, .inl fe)), (qo, .inr (1, [.ref ao])), (ao, .inl (cI, 20, .inl fo)), (r, .inr (2, [.ref qi, .ref qs, .ref qk, .ref qt, .int last, .int used, .int lod, .int uod])), (qi, .inr (1, [.ref ai])), (ai, .inl (cI, N, .inl fi)), (qs, .inr (1, [.ref aS])), (aS, .inl (cI, K, .inl fs)), (qk, .inr (1, [.ref ak])), (ak, .inl (cI, 6, .inl fk)), (qt, .inr (1, [.ref aT])), (aT, .inl (cI, 8, .inl ft))] [o, qd, ad, qe, ae, qo, ao, r, qi, ai, qs, aS, qk, ak, qt, aT] (some (.int (sl_total N K fi fs last kind from_ to_)))) (tX dC dI (exOne (exKind kind)) [(o, .inr (3, [.int se, .ref qd, .ref qe, .ref qo, .ref r, .int tc, .int fb, .int up, .int bk])), (qd, .inr (1, [.ref ad])), (ad, .inl (cI, N, .inl fd)), (qe, .inr (1, [.ref ae])), (ae, .inl (cI, N, .inl fe)), (qo, .inr (1, [.ref ao])), (ao, .inl (cI, 20, .inl fo)), (r, .inr (2, [.ref qi, .ref qs, .ref qk, .ref qt, .int last, .int used, .int lod, .int uod])), (qi, .inr (1, [.ref ai])), (ai, .inl (cI, N, .inl fi)), (qs, .inr (1, [.ref aS])), (aS, .inl (cI, K, .inl fs)), (qk, .inr (1, [.ref ak])), (ak, .inl (cI, 6, .inl fk)), (qt, .inr (1, [.ref aT])), (aT, .inl (cI, 8, .inl ft))] [o, qd, ad, qe, ae, qo, ao, r, qi, ai, qs, aS, qk, ak, qt, aT]) ([.ref o, .int kind, .int from_, .int to_] : List Value).toArray s 1 6 (mA [o, qd, ad, qe, ae, qo, ao, r, qi, ai, qs, aS, qk, ak, qt, aT])) (F0 m 32 ls []) := by
      intro n
      induction n with
      | zero => intro number x H locs ls hi hm; exact absurd hm (Nat.not_lt_zero _)
      | succ n ih =>
        intro number x H locs ls hi hm hP hD hS hl
        refine lv_iload hx hb dX2_total_32 (lv_at hl 0 rfl) ?_
        refine lv_iload hx hb dX2_total_34 (lv_at hl 2 rfl) ?_
        refine lv_icmp_gt (tgt := 72) hx hb dX2_total_36 (by decide) (fun c2 => ?_) (fun c2 => ?_)
        · refine lv_iload hx hb dX2_total_72 (lv_at hl 1 rfl) ?_
          exact k_iretT hx hb hr hlocks hP hS (by simp only [exOne, x1, Option.none_or]) (by rw [← hi, loopE_exit ((k_le1 (k_mmin hlast)).mp c2)]; rfl) rfl (Nat.le_of_ble_eq_true rfl) (Nat.le_of_ble_eq_true rfl) dX2_total_74
        · refine lv_aload_n hx hb dX2_total_39 rfl (lv_at hl 4 rfl) ?_
          refine k_get (ci := 3) (T := TX2) (N := 9) (C := RX2) hx hb hts inX2 hown hK hP 0 rfl rfl 4 (by decide) fl40 rfl rfl dX2_total_40 ?_
          refine lv_iload hx hb dX2_total_43 (lv_at hl 0 rfl) ?_
          refine k_afP (va_runV (rest := []) ⟨hx, hb, hml, hown, hts⟩ (m_X1_kindOf l dC dI cI cJ r qi ai qs aS qk ak qt aT N K fi fs fk ft last used lod uod number (by first | assumption | decide) (by first | assumption | decide)) (cwV 1 hts gX2_total_X1_kindOf rfl rfl rfl hdv_X1_kindOf ⟨Nat.le_of_ble_eq_true rfl, Nat.le_of_ble_eq_true rfl⟩) (k_preVP hK hP [7, 8, 9, 10, 11, 12, 13, 14, 15] rfl 7 rfl rfl) rfl rfl hl.1 rfl (lv_room (Nat.le_of_ble_eq_true rfl)) dX2_total_45 ⟨Nat.le_of_ble_eq_true rfl, Nat.le_of_ble_eq_true rfl⟩) ?_
          refine lv_iload_n hx hb dX2_total_48 rfl (lv_at hl 5 rfl) ?_
          refine lv_icmp_ne (tgt := 66) hx hb dX2_total_49 (by decide) (fun c3 => ?_) (fun c3 => ?_)
          · refine lv_iinc (v := number + 1) (lv' := [(7, .int (number + 1)), (6, .int x), (5, .int (mmin last to_)), (4, .int (mmax 1 from_)), (0, .ref o), (1, .int kind), (2, .int from_), (3, .int to_)]) hx hb dX2_total_66 hl (k := 0) rfl rfl (by decide) rfl (fun ls hl => ?_)
            refine lv_goto (tgt := 32) hx hb dX2_total_69 (by decide) ?_
            exact ih (number + 1) x _ _ ls (by rw [loopE_go (k_le1n (k_mmin hlast) c2) (by simp only [sl_tstep, if_neg c3]; rfl)] at hi; exact hi) (k_meas (k_le1n (k_mmin hlast) c2) hm) hP hD hS (lv_sub hl [0, 1, 2, 3, 4, 5, 6, 7] rfl)
          · refine lv_iload hx hb dX2_total_52 (lv_at hl 1 rfl) ?_
            refine lv_aload_n hx hb dX2_total_54 rfl (lv_at hl 4 rfl) ?_
            refine k_get (ci := 3) (T := TX2) (N := 9) (C := RX2) hx hb hts inX2 hown hK hP 0 rfl rfl 4 (by decide) fl40 rfl rfl dX2_total_55 ?_
            refine lv_iload hx hb dX2_total_58 (lv_at hl 0 rfl) ?_
            refine k_afP (va_runV (rest := [.int x]) ⟨hx, hb, hml, hown, hts⟩ (m_X1_sumOfBytes l dC dI cI cJ r qi ai qs aS qk ak qt aT N K fi fs fk ft last used lod uod number (by first | assumption | decide) (by first | assumption | decide)) (cwV 1 hts gX2_total_X1_sumOfBytes rfl rfl rfl hdv_X1_sumOfBytes ⟨Nat.le_of_ble_eq_true rfl, Nat.le_of_ble_eq_true rfl⟩) (k_preVP hK hP [7, 8, 9, 10, 11, 12, 13, 14, 15] rfl 7 rfl rfl) rfl rfl hl.1 rfl (lv_room (Nat.le_of_ble_eq_true rfl)) dX2_total_60 ⟨Nat.le_of_ble_eq_true rfl, Nat.le_of_ble_eq_true rfl⟩) ?_
            refine lv_iadd hx hb dX2_total_63 ?_
            refine lv_istore (lv' := [(6, .int (x + (rw_sumOfBytes N K fi fs number))), (7, .int number), (5, .int (mmin last to_)), (4, .int (mmax 1 from_)), (0, .ref o), (1, .int kind), (2, .int from_), (3, .int to_)]) hx hb dX2_total_64 hl (by decide) rfl (fun ls hl => ?_)
            refine lv_iinc (v := number + 1) (lv' := [(7, .int (number + 1)), (6, .int (x + (rw_sumOfBytes N K fi fs number))), (5, .int (mmin last to_)), (4, .int (mmax 1 from_)), (0, .ref o), (1, .int kind), (2, .int from_), (3, .int to_)]) hx hb dX2_total_66 hl (k := 1) rfl rfl (by decide) rfl (fun ls hl => ?_)
            refine lv_goto (tgt := 32) hx hb dX2_total_69 (by decide) ?_
            exact ih (number + 1) (x + (rw_sumOfBytes N K fi fs number)) _ _ ls (by rw [loopE_go (k_le1n (k_mmin hlast) c2) (by simp only [sl_tstep, if_pos c3]; rfl)] at hi; exact hi) (k_meas (k_le1n (k_mmin hlast) c2) hm) hP hD hS (lv_sub hl [0, 1, 2, 3, 4, 5, 6, 7] rfl)
    exact loop32 _ (mmax 1 from_) 0 _ _ ls rfl (Nat.lt_succ_self _) hP hD hS (lv_sub hl [0, 1, 2, 3, 4, 5, 6, 7] rfl)
set_option maxHeartbeats 4000000 in
set_option maxRecDepth 100000 in
theorem m_X2_count (l : Launch) (dC : Nat → ClassId) (dI : Nat → Nat → Nat) (cI cJ : ClassId) (o : Nat) (qd : Nat) (ad : Nat) (qe : Nat) (ae : Nat) (qo : Nat) (ao : Nat) (r : Nat) (qi : Nat) (ai : Nat) (qs : Nat) (aS : Nat) (qk : Nat) (ak : Nat) (qt : Nat) (aT : Nat) (N : Nat) (K : Nat) (fd : Nat → Int32) (fe : Nat → Int32) (fo : Nat → Int32) (fi : Nat → Int32) (fs : Nat → Int32) (fk : Nat → Int32) (ft : Nat → Int32) (se : Int32) (tc : Int32) (fb : Int32) (up : Int32) (bk : Int32) (last : Int32) (used : Int32) (lod : Int32) (uod : Int32) (what : Int32) (hN : N < 2 ^ 31) (hK9 : K < 2 ^ 31) : cP l yX2_count wsX2_count ({ frames := 1, cells := 0, slots := 0, locals := 21 }) dC dI cI cJ [(o, .inr (3, [.int se, .ref qd, .ref qe, .ref qo, .ref r, .int tc, .int fb, .int up, .int bk])), (qd, .inr (1, [.ref ad])), (ad, .inl (cI, N, .inl fd)), (qe, .inr (1, [.ref ae])), (ae, .inl (cI, N, .inl fe)), (qo, .inr (1, [.ref ao])), (ao, .inl (cI, 20, .inl fo)), (r, .inr (2, [.ref qi, .ref qs, .ref qk, .ref qt, .int last, .int used, .int lod, .int uod])), (qi, .inr (1, [.ref ai])), (ai, .inl (cI, N, .inl fi)), (qs, .inr (1, [.ref aS])), (aS, .inl (cI, K, .inl fs)), (qk, .inr (1, [.ref ak])), (ak, .inl (cI, 6, .inl fk)), (qt, .inr (1, [.ref aT])), (aT, .inl (cI, 8, .inl ft))] [.ref o, .int what] (sl_count fk se tc up last used lod uod what) := by
  refine Met.ofW (cc := cX2_count) (maxL := 2) (ret := (some .int)) (by decide) rfl ?_
  intro p e s m args below meth c s₁ B hml hv
  obtain ⟨rfl, hP, hK⟩ := hv
  have hx := B.exec
  have hb := B.bytes
  have hr := B.returns
  have hts := atoms_spec (ws := wsX2_count) B.pre
  have hown : s.vm.findClass RX2 = some m.cls := findClass_of_methodNamed B.named
  have hlocks := B.notSynchronized
  have inX1 : ∀ w ∈ wsX10, w ∈ wsX2_count := fun w h => (List.mem_cons_of_mem _ (List.mem_append_left _ (List.mem_append_right _ h)))
  have inX2 : ∀ w ∈ wsX20, w ∈ wsX2_count := fun w h => (List.mem_cons_of_mem _ (List.mem_append_left _ (List.mem_append_left _ (List.mem_append_right _ h))))
  have fl18 := hts (.fieldLink RX2 18 "StockLog" "sectors" "I") (by decide +kernel)
  have fl40 := hts (.fieldLink RX2 40 "StockLog" "rows" "LStockLog$Rows;") (by decide +kernel)
  have fl47 := hts (.fieldLink RX2 47 "StockLog" "up" "Z") (by decide +kernel)
  have fl61 := hts (.fieldLink RX2 61 "StockLog" "toldCount" "I") (by decide +kernel)
  have hl := lv_entry ([.ref o, .int what]) (n := 2) (Nat.le_of_ble_eq_true rfl)
  rw [lg_entry_eq]
  generalize (lg_sl ([.ref o, .int what]) ++ List.replicate (2 - (lg_sl ([.ref o, .int what])).length) Slot.unset).toArray = ls at hl ⊢
  have hl : lv_has ls 2 [(0, .ref o), (1, .int what)] := hl
  refine lv_iload_n hx hb dX2_count_0 rfl (lv_at hl 1 rfl) ?_
  by_cases c1 : what = 0
  · refine lv_tableIn (off := 47) (tgt := 48) hx hb dX2_count_1 (by rw [c1]; decide) (by rw [c1]; decide) (by rw [c1]; rfl) (by decide) ?_
    refine lv_aload_n hx hb dX2_count_48 rfl (lv_at hl 0 rfl) ?_
    refine k_get (ci := 3) (T := TX2) (N := 9) (C := RX2) hx hb hts inX2 hown hK hP 0 rfl rfl 0 (by decide) fl18 rfl rfl dX2_count_49 ?_
    exact k_iretP (ret := none) hx hb hr hlocks (by simp only [sl_count, if_pos c1]) rfl dX2_count_52
  by_cases c2 : what = 1
  · refine lv_tableIn (off := 52) (tgt := 53) hx hb dX2_count_1 (by rw [c2]; decide) (by rw [c2]; decide) (by rw [c2]; rfl) (by decide) ?_
    refine lv_aload_n hx hb dX2_count_53 rfl (lv_at hl 0 rfl) ?_
    refine k_get (ci := 3) (T := TX2) (N := 9) (C := RX2) hx hb hts inX2 hown hK hP 0 rfl rfl 4 (by decide) fl40 rfl rfl dX2_count_54 ?_
    refine k_getN (host := "StockLog") (ci := 2) (T := TX1) (N := 8) (C := RX1) hx hb hts inX1 hown hK hP 7 rfl rfl 4 (by decide) (by decide +kernel) rfl rfl dX2_count_57 ?_
    exact k_iretP (ret := none) hx hb hr hlocks (by simp only [sl_count, if_neg c1, if_pos c2]) rfl dX2_count_60
  by_cases c3 : what = 2
  · refine lv_tableIn (off := 60) (tgt := 61) hx hb dX2_count_1 (by rw [c3]; decide) (by rw [c3]; decide) (by rw [c3]; rfl) (by decide) ?_
    refine lv_aload_n hx hb dX2_count_61 rfl (lv_at hl 0 rfl) ?_
    refine k_get (ci := 3) (T := TX2) (N := 9) (C := RX2) hx hb hts inX2 hown hK hP 0 rfl rfl 4 (by decide) fl40 rfl rfl dX2_count_62 ?_
    refine k_getN (host := "StockLog") (ci := 2) (T := TX1) (N := 8) (C := RX1) hx hb hts inX1 hown hK hP 7 rfl rfl 6 (by decide) (by decide +kernel) rfl rfl dX2_count_65 ?_
    exact k_iretP (ret := none) hx hb hr hlocks (by simp only [sl_count, if_neg c1, if_neg c2, if_pos c3]) rfl dX2_count_68
  by_cases c4 : what = 3
  · refine lv_tableIn (off := 68) (tgt := 69) hx hb dX2_count_1 (by rw [c4]; decide) (by rw [c4]; decide) (by rw [c4]; rfl) (by decide) ?_
    refine lv_aload_n hx hb dX2_count_69 rfl (lv_at hl 0 rfl) ?_
    refine k_get (ci := 3) (T := TX2) (N := 9) (C := RX2) hx hb hts inX2 hown hK hP 0 rfl rfl 4 (by decide) fl40 rfl rfl dX2_count_70 ?_
    refine k_afP (va_runV (rest := []) ⟨hx, hb, hml, hown, hts⟩ (m_X1_bytesInMemory l dC dI cI cJ r qi ai qs aS qk ak qt aT N K fi fs fk ft last used lod uod ) (cwV 0 hts gX2_count_X1_bytesInMemory rfl rfl rfl hdv_X1_bytesInMemory ⟨Nat.le_of_ble_eq_true rfl, Nat.le_of_ble_eq_true rfl⟩) (k_preVP hK hP [7, 8, 9, 10, 11, 12, 13, 14, 15] rfl 7 rfl rfl) rfl rfl hl.1 rfl (lv_room (Nat.le_of_ble_eq_true rfl)) dX2_count_73 ⟨Nat.le_of_ble_eq_true rfl, Nat.le_of_ble_eq_true rfl⟩) ?_
    exact k_iretP (ret := none) hx hb hr hlocks (by simp only [sl_count, if_neg c1, if_neg c2, if_neg c3, if_pos c4]) rfl dX2_count_76
  by_cases c5 : what = 4
  · refine lv_tableIn (off := 76) (tgt := 77) hx hb dX2_count_1 (by rw [c5]; decide) (by rw [c5]; decide) (by rw [c5]; rfl) (by decide) ?_
    refine lv_aload_n hx hb dX2_count_77 rfl (lv_at hl 0 rfl) ?_
    refine k_get (ci := 3) (T := TX2) (N := 9) (C := RX2) hx hb hts inX2 hown hK hP 0 rfl rfl 5 (by decide) fl61 rfl rfl dX2_count_78 ?_
    exact k_iretP (ret := none) hx hb hr hlocks (by simp only [sl_count, if_neg c1, if_neg c2, if_neg c3, if_neg c4, if_pos c5]) rfl dX2_count_81
  by_cases c6 : what = 5
  · refine lv_tableIn (off := 81) (tgt := 82) hx hb dX2_count_1 (by rw [c6]; decide) (by rw [c6]; decide) (by rw [c6]; rfl) (by decide) ?_
    refine lv_aload_n hx hb dX2_count_82 rfl (lv_at hl 0 rfl) ?_
    refine k_get (ci := 3) (T := TX2) (N := 9) (C := RX2) hx hb hts inX2 hown hK hP 0 rfl rfl 7 (by decide) fl47 rfl rfl dX2_count_83 ?_
    refine lv_if_eq (tgt := 93) hx hb dX2_count_86 (by decide) (fun c7 => ?_) (fun c7 => ?_)
    · refine lv_iconst (v := 0) hx hb dX2_count_93 (by decide) ?_
      exact k_iretP (ret := none) hx hb hr hlocks (by simp only [sl_count, if_neg c1, if_neg c2, if_neg c3, if_neg c4, if_neg c5, if_pos c6, if_pos c7]) rfl dX2_count_94
    · refine lv_iconst (v := 1) hx hb dX2_count_89 (by decide) ?_
      refine lv_goto (tgt := 94) hx hb dX2_count_90 (by decide) ?_
      exact k_iretP (ret := none) hx hb hr hlocks (by simp only [sl_count, if_neg c1, if_neg c2, if_neg c3, if_neg c4, if_neg c5, if_pos c6, if_neg c7]) rfl dX2_count_94
  by_cases c8 : what = 6
  · refine lv_tableIn (off := 94) (tgt := 95) hx hb dX2_count_1 (by rw [c8]; decide) (by rw [c8]; decide) (by rw [c8]; rfl) (by decide) ?_
    refine lv_aload_n hx hb dX2_count_95 rfl (lv_at hl 0 rfl) ?_
    refine k_get (ci := 3) (T := TX2) (N := 9) (C := RX2) hx hb hts inX2 hown hK hP 0 rfl rfl 4 (by decide) fl40 rfl rfl dX2_count_96 ?_
    refine k_getN (host := "StockLog") (ci := 2) (T := TX1) (N := 8) (C := RX1) hx hb hts inX1 hown hK hP 7 rfl rfl 5 (by decide) (by decide +kernel) rfl rfl dX2_count_99 ?_
    exact k_iretP (ret := none) hx hb hr hlocks (by simp only [sl_count, if_neg c1, if_neg c2, if_neg c3, if_neg c4, if_neg c5, if_neg c6, if_pos c8]) rfl dX2_count_102
  by_cases c9 : what = 7
  · refine lv_tableIn (off := 102) (tgt := 103) hx hb dX2_count_1 (by rw [c9]; decide) (by rw [c9]; decide) (by rw [c9]; rfl) (by decide) ?_
    refine lv_aload_n hx hb dX2_count_103 rfl (lv_at hl 0 rfl) ?_
    refine k_get (ci := 3) (T := TX2) (N := 9) (C := RX2) hx hb hts inX2 hown hK hP 0 rfl rfl 4 (by decide) fl40 rfl rfl dX2_count_104 ?_
    refine k_getN (host := "StockLog") (ci := 2) (T := TX1) (N := 8) (C := RX1) hx hb hts inX1 hown hK hP 7 rfl rfl 2 (by decide) (by decide +kernel) rfl rfl dX2_count_107 ?_
    refine lv_iconst (v := 5) hx hb dX2_count_110 (by decide) ?_
    refine k_afP (va_runV (rest := []) ⟨hx, hb, hml, hown, hts⟩ (m_X0_at l dC dI cI cJ qk ak 6 fk 5 (by first | assumption | decide)) (cwV 1 hts gX2_count_X0_at rfl rfl rfl hdv_X0_at ⟨Nat.le_of_ble_eq_true rfl, Nat.le_of_ble_eq_true rfl⟩) (k_preVP hK hP [12, 13] rfl 12 rfl rfl) rfl rfl hl.1 rfl (lv_room (Nat.le_of_ble_eq_true rfl)) dX2_count_111 ⟨Nat.le_of_ble_eq_true rfl, Nat.le_of_ble_eq_true rfl⟩) ?_
    exact k_iretP (ret := none) hx hb hr hlocks (by simp only [sl_count, if_neg c1, if_neg c2, if_neg c3, if_neg c4, if_neg c5, if_neg c6, if_neg c8, if_pos c9]) rfl dX2_count_114
  refine lv_tableOut (tgt := 115) hx hb dX2_count_1 (by have := lv_neT (k := 0) (a := 0) c1 rfl; have := lv_neT (k := 1) (a := 1) c2 rfl; have := lv_neT (k := 2) (a := 2) c3 rfl; have := lv_neT (k := 3) (a := 3) c4 rfl; have := lv_neT (k := 4) (a := 4) c5 rfl; have := lv_neT (k := 5) (a := 5) c6 rfl; have := lv_neT (k := 6) (a := 6) c8 rfl; have := lv_neT (k := 7) (a := 7) c9 rfl; omega) (by decide) ?_
  refine lv_iconst (v := (-1)) hx hb dX2_count_115 (by decide) ?_
  exact k_iretP (ret := none) hx hb hr hlocks (by simp only [sl_count, if_neg c1, if_neg c2, if_neg c3, if_neg c4, if_neg c5, if_neg c6, if_neg c8, if_neg c9]) rfl dX2_count_116
