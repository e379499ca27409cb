set_option maxHeartbeats 4000000 in
set_option maxRecDepth 100000 in
theorem lc_cut {p : Program} {l : Launch} {e : Env} {s : State} {m : MethodId} {below : List Frame} {meth : Method} {c : Code} {dC : Nat → ClassId} {dI : Nat → Nat → Nat} {cI cJ : ClassId} {o qd ad qe ae qo ao r qi ai qs aS qk ak qt aT h d1 s1 i1 b1 t1 ja b n : Nat} {L : Nat} {xs : Nat → Int32} (F : LFix l p s m meth c b L xs dC dI cI cJ) {i cells slots : Nat} (hi : i + 4 ≤ L) (hc : cells + 3 ≤ 601024) (hsl : slots + 18 ≤ 7293000) (kk : LCont p l e s m below meth c dC dI cI cJ o qd ad qe ae qo ao r qi ai qs aS qk ak qt aT h d1 s1 i1 b1 t1 ja b n i (cells + 3) (slots + 18) 875) : LCont p l e s m below meth c dC dI cI cJ o qd ad qe ae qo ao r qi ai qs aS qk ak qt aT h d1 s1 i1 b1 t1 ja b n i cells slots 324 := by
  obtain ⟨hL, C0, hst, hK, hT, hZ, hN⟩ := F
  obtain ⟨hx, hb, hr, hml, hown0, hts0, hX, hbl, hlocks, hgv⟩ := C0
  have hown : s.vm.findClass RL = some m.cls := hown0
  have hts : ∀ w ∈ wqL_law, w.before #[Value.ref b] s = true := fun w h => hts0 w (wqL_law_in w h)
  intro R S T Bg ln fd fe fo fi fs fk ft fD fS fI fB fT wr up bk th fL H locs ls hR hP hD hS hl
  refine lv_aload_n hx hb dL_law_324 rfl (lv_at hl 1 rfl) ?_
  refine lv_aload_n hx hb dL_law_325 rfl (lv_at hl 0 rfl) ?_
  refine lv_iload hx hb dL_law_326 (lv_at hl 4 rfl) ?_
  refine lv_iconst (v := 1) hx hb dL_law_328 (by decide) ?_
  refine lv_iadd hx hb dL_law_329 ?_
  refine k_sld (i := i) (j := 1) hx hb hX hbl hS (by omega) hL (nI_add i 1) dL_law_330 ?_
  refine lv_aload_n hx hb dL_law_331 rfl (lv_at hl 0 rfl) ?_
  refine lv_iload hx hb dL_law_332 (lv_at hl 4 rfl) ?_
  refine lv_iconst (v := 2) hx hb dL_law_334 (by decide) ?_
  refine lv_iadd hx hb dL_law_335 ?_
  refine k_sld (i := i) (j := 2) hx hb hX hbl hS (by omega) hL (nI_add i 2) dL_law_336 ?_
  obtain ⟨R9, S9, T9, Bg9, ln9, fd9, fe9, fo9, fi9, fs9, fk9, ft9, fD9, fS9, fI9, fB9, fT9, wr9, up9, bk9, fL9, c9, b9, hR9, h1, h2⟩ := st_cut l dC dI cI cJ o qd ad qe ae qo ao r qi ai qs aS qk ak qt aT ja h d1 s1 i1 b1 t1 n R S T Bg ln fd fe fo fi fs fk ft fD fS fI fB fT wr up bk th fL hR hst (xs (i + 1)) (xs (i + 2))
  refine k_afH (wc := wX cI o qd ad qe ae qo ao r qi ai qs aS qk ak qt aT n R S T Bg fd fe fo fi fs fk ft wr up bk) (ws' := wL cI cJ o qd ad qe ae qo ao r qi ai qs aS qk ak qt aT h d1 s1 i1 b1 t1 ja n R9 S9 T9 Bg9 fd9 fe9 fo9 fi9 fs9 fk9 ft9 wr9 up9 bk9 R S T fD fS fI fB fT wr up bk th fL) (vx_runSW (rest := []) ⟨hx, hb, hml, hown, hts⟩ h1 (vx_cwSW 3 hts gq_L_cut rfl rfl rfl (by decide +kernel) ⟨Nat.le_of_ble_eq_true rfl, Nat.le_of_ble_eq_true rfl⟩) (k_preSH hK hP hD hS hT hZ hN [0, 1, 2, 3, 4, 5, 6, 7, 8, 9, 10, 11, 12, 13, 14, 15] (by decide) rfl rfl) rfl rfl hl.1 rfl (lv_room (Nat.le_of_ble_eq_true rfl)) dL_law_337 ⟨by show cells + 1 ≤ 601024; omega, by show slots + 6 ≤ 7293000; omega⟩) hP hD hS [0, 1, 2, 3, 4, 5, 6, 7, 8, 9, 10, 11, 12, 13, 14, 15] rfl rfl rfl rfl (fun H locs hP hD hS => ?_)
  refine lv_istore (lv' := [(5, .int c9), (0, .ref b), (1, .ref o), (2, .ref h), (3, .ref ja), (4, .int (nI i))]) hx hb dL_law_340 hl (by decide) rfl (fun ls hl => ?_)
  refine lv_aload_n hx hb dL_law_342 rfl (lv_at hl 3 rfl) ?_
  refine lv_aload_n hx hb dL_law_343 rfl (lv_at hl 1 rfl) ?_
  refine lv_iload hx hb dL_law_344 (lv_at hl 5 rfl) ?_
  refine lv_iconst (v := 1) hx hb dL_law_346 (by decide) ?_
  refine lv_iadd hx hb dL_law_347 ?_
  refine k_sld (i := i) (j := 1) hx hb hX hbl hS (by omega) hL (nI_add i 1) dL_law_348 ?_
  refine lv_aload_n hx hb dL_law_349 rfl (lv_at hl 1 rfl) ?_
  refine lv_iload hx hb dL_law_350 (lv_at hl 5 rfl) ?_
  refine lv_iconst (v := 2) hx hb dL_law_352 (by decide) ?_
  refine lv_iadd hx hb dL_law_353 ?_
  refine k_sld (i := i) (j := 2) hx hb hX hbl hS (by omega) hL (nI_add i 2) dL_law_354 ?_
  refine k_afW (wc := wM cI h d1 s1 i1 b1 t1 n R S T fD fS fI fB fT wr up bk th) (ws' := wL cI cJ o qd ad qe ae qo ao r qi ai qs aS qk ak qt aT h d1 s1 i1 b1 t1 ja n R9 S9 T9 Bg9 fd9 fe9 fo9 fi9 fs9 fk9 ft9 wr9 up9 bk9 R9 S9 T9 fD9 fS9 fI9 fB9 fT9 wr9 up9 bk9 c9 fL) (va_runV (rest := []) ⟨hx, hb, hml, hown, hts⟩ h2 (cwV 2 hts gq_X3_cut rfl rfl rfl hdv_X3_cut ⟨Nat.le_of_ble_eq_true rfl, Nat.le_of_ble_eq_true rfl⟩) (k_preVW hK hP hD [16, 17, 18, 19, 20, 21] (by decide) rfl 16 rfl rfl) rfl rfl hl.1 rfl (lv_room (Nat.le_of_ble_eq_true rfl)) dL_law_355 ⟨by show cells + 1 ≤ 601024; omega, by show slots + 6 ≤ 7293000; omega⟩) hP hD hS [16, 17, 18, 19, 20, 21] rfl rfl rfl rfl (fun H locs hP hD hS => ?_)
  refine lv_aload_n hx hb dL_law_358 rfl (lv_at hl 3 rfl) ?_
  refine k_afP (va_runV (rest := []) ⟨hx, hb, hml, hown, hts⟩ (m_X3_thrown l dC dI cI cJ h d1 s1 i1 b1 t1 fD9 fS9 fI9 fB9 fT9 n R9 S9 T9 bk9 up9 wr9 c9) (cwV 0 hts gq_X3_thrown rfl rfl rfl hdv_X3_thrown ⟨Nat.le_of_ble_eq_true rfl, Nat.le_of_ble_eq_true rfl⟩) (k_preVP hK hP [16, 17, 18, 19, 20, 21] rfl 16 rfl rfl) rfl rfl hl.1 rfl (lv_room (Nat.le_of_ble_eq_true rfl)) dL_law_359 ⟨by show cells + 1 ≤ 601024; omega, by show slots + 6 ≤ 7293000; omega⟩) ?_
  refine lv_iload hx hb dL_law_362 (lv_at hl 0 rfl) ?_
  refine lv_icmp_eq (tgt := 369) hx hb dL_law_364 (by decide) (fun _ => ?_) (fun z => absurd rfl z)
  refine lv_goto (tgt := 875) hx hb dL_law_369 (by decide) ?_
  refine W.widen (k := cells + 3) (n := slots + 18) (by omega) (by omega) ?_
  exact kk R9 S9 T9 Bg9 ln9 fd9 fe9 fo9 fi9 fs9 fk9 ft9 fD9 fS9 fI9 fB9 fT9 wr9 up9 bk9 c9 fL H locs ls hR9 hP hD hS (lv_sub hl [1, 2, 3, 4, 5] rfl)
set_option maxHeartbeats 4000000 in
set_option maxRecDepth 100000 in
theorem lc_start {p : Program} {l : Launch} {e : Env} {s : State} {m : MethodId} {below : List Frame} {meth : Method} {c : Code} {dC : Nat → ClassId} {dI : Nat → Nat → Nat} {cI cJ : ClassId} {o qd ad qe ae qo ao r qi ai qs aS qk ak qt aT h d1 s1 i1 b1 t1 ja b n : Nat} {L : Nat} {xs : Nat → Int32} (F : LFix l p s m meth c b L xs dC dI cI cJ) {i cells slots : Nat} (hi : i + 4 ≤ L) (hc : cells + 3 ≤ 601024) (hsl : slots + 18 ≤ 7293000) (kk : LCont p l e s m below meth c dC dI cI cJ o qd ad qe ae qo ao r qi ai qs aS qk ak qt aT h d1 s1 i1 b1 t1 ja b n i (cells + 3) (slots + 18) 875) : LCont p l e s m below meth c dC dI cI cJ o qd ad qe ae qo ao r qi ai qs aS qk ak qt aT h d1 s1 i1 b1 t1 ja b n i cells slots 372 := by
  obtain ⟨hL, C0, hst, hK, hT, hZ, hN⟩ := F
  obtain ⟨hx, hb, hr, hml, hown0, hts0, hX, hbl, hlocks, hgv⟩ := C0
  have hown : s.vm.findClass RL = some m.cls := hown0
  have hts : ∀ w ∈ wqL_law, w.before #[Value.ref b] s = true := fun w h => hts0 w (wqL_law_in w h)
  intro R S T Bg ln fd fe fo fi fs fk ft fD fS fI fB fT wr up bk th fL H locs ls hR hP hD hS hl
  refine lv_aload_n hx hb dL_law_372 rfl (lv_at hl 1 rfl) ?_
  obtain ⟨R9, S9, T9, Bg9, ln9, fd9, fe9, fo9, fi9, fs9, fk9, ft9, fD9, fS9, fI9, fB9, fT9, wr9, up9, bk9, fL9, c9, b9, hR9, h1, h2⟩ := st_start l dC dI cI cJ o qd ad qe ae qo ao r qi ai qs aS qk ak qt aT ja h d1 s1 i1 b1 t1 n R S T Bg ln fd fe fo fi fs fk ft fD fS fI fB fT wr up bk th fL hR hst 
  refine k_afW (wc := wX cI o qd ad qe ae qo ao r qi ai qs aS qk ak qt aT n R S T Bg fd fe fo fi fs fk ft wr up bk) (ws' := wL cI cJ o qd ad qe ae qo ao r qi ai qs aS qk ak qt aT h d1 s1 i1 b1 t1 ja n R9 S9 T9 Bg9 fd9 fe9 fo9 fi9 fs9 fk9 ft9 wr9 up9 bk9 R S T fD fS fI fB fT wr up bk th fL) (va_runV (rest := []) ⟨hx, hb, hml, hown, hts⟩ h1 (cwV 0 hts gq_X2_start rfl rfl rfl ⟨rfl, by decide +kernel⟩ ⟨Nat.le_of_ble_eq_true rfl, Nat.le_of_ble_eq_true rfl⟩) (k_preVW hK hP hD [0, 1, 2, 3, 4, 5, 6, 7, 8, 9, 10, 11, 12, 13, 14, 15] (by decide) rfl 0 rfl rfl) rfl rfl hl.1 rfl (lv_room (Nat.le_of_ble_eq_true rfl)) dL_law_373 ⟨by show cells ≤ 601024; omega, by show slots ≤ 7293000; omega⟩) hP hD hS [0, 1, 2, 3, 4, 5, 6, 7, 8, 9, 10, 11, 12, 13, 14, 15] rfl rfl rfl rfl (fun H locs hP hD hS => ?_)
  refine lv_aload_n hx hb dL_law_376 rfl (lv_at hl 2 rfl) ?_
  refine k_afW (wc := wM cI h d1 s1 i1 b1 t1 n R S T fD fS fI fB fT wr up bk th) (ws' := wL cI cJ o qd ad qe ae qo ao r qi ai qs aS qk ak qt aT h d1 s1 i1 b1 t1 ja n R9 S9 T9 Bg9 fd9 fe9 fo9 fi9 fs9 fk9 ft9 wr9 up9 bk9 R9 S9 T9 fD9 fS9 fI9 fB9 fT9 wr9 up9 bk9 c9 fL) (va_runV (rest := [.int b9]) ⟨hx, hb, hml, hown, hts⟩ h2 (cwV 0 hts gq_X3_start rfl rfl rfl hdv_X3_start ⟨Nat.le_of_ble_eq_true rfl, Nat.le_of_ble_eq_true rfl⟩) (k_preVW hK hP hD [16, 17, 18, 19, 20, 21] (by decide) rfl 16 rfl rfl) rfl rfl hl.1 rfl (lv_room (Nat.le_of_ble_eq_true rfl)) dL_law_377 ⟨by show cells ≤ 601024; omega, by show slots ≤ 7293000; omega⟩) hP hD hS [16, 17, 18, 19, 20, 21] rfl rfl rfl rfl (fun H locs hP hD hS => ?_)
  refine lv_icmp_eq (tgt := 875) hx hb dL_law_380 (by decide) (fun _ => ?_) (fun z => absurd rfl z)
  refine W.widen (k := cells + 3) (n := slots + 18) (by omega) (by omega) ?_
  exact kk R9 S9 T9 Bg9 ln9 fd9 fe9 fo9 fi9 fs9 fk9 ft9 fD9 fS9 fI9 fB9 fT9 wr9 up9 bk9 c9 fL H locs ls hR9 hP hD hS hl
set_option maxHeartbeats 4000000 in
set_option maxRecDepth 100000 in
theorem lc_poke {p : Program} {l : Launch} {e : Env} {s : State} {m : MethodId} {below : List Frame} {meth : Method} {c : Code} {dC : Nat → ClassId} {dI : Nat → Nat → Nat} {cI cJ : ClassId} {o qd ad qe ae qo ao r qi ai qs aS qk ak qt aT h d1 s1 i1 b1 t1 ja b n : Nat} {L : Nat} {xs : Nat → Int32} (F : LFix l p s m meth c b L xs dC dI cI cJ) {i cells slots : Nat} (hi : i + 4 ≤ L) (hc : cells + 3 ≤ 601024) (hsl : slots + 18 ≤ 7293000) (kk : LCont p l e s m below meth c dC dI cI cJ o qd ad qe ae qo ao r qi ai qs aS qk ak qt aT h d1 s1 i1 b1 t1 ja b n i (cells + 3) (slots + 18) 875) : LCont p l e s m below meth c dC dI cI cJ o qd ad qe ae qo ao r qi ai qs aS qk ak qt aT h d1 s1 i1 b1 t1 ja b n i cells slots 385 := by
  obtain ⟨hL, C0, hst, hK, hT, hZ, hN⟩ := F
  obtain ⟨hx, hb, hr, hml, hown0, hts0, hX, hbl, hlocks, hgv⟩ := C0
  have hown : s.vm.findClass RL = some m.cls := hown0
  have hts : ∀ w ∈ wqL_law, w.before #[Value.ref b] s = true := fun w h => hts0 w (wqL_law_in w h)
  intro R S T Bg ln fd fe fo fi fs fk ft fD fS fI fB fT wr up bk th fL H locs ls hR hP hD hS hl
  refine lv_aload_n hx hb dL_law_385 rfl (lv_at hl 1 rfl) ?_
  refine lv_aload_n hx hb dL_law_386 rfl (lv_at hl 0 rfl) ?_
  refine lv_iload hx hb dL_law_387 (lv_at hl 4 rfl) ?_
  refine lv_iconst (v := 1) hx hb dL_law_389 (by decide) ?_
  refine lv_iadd hx hb dL_law_390 ?_
  refine k_sld (i := i) (j := 1) hx hb hX hbl hS (by omega) hL (nI_add i 1) dL_law_391 ?_
  refine lv_aload_n hx hb dL_law_392 rfl (lv_at hl 0 rfl) ?_
  refine lv_iload hx hb dL_law_393 (lv_at hl 4 rfl) ?_
  refine lv_iconst (v := 2) hx hb dL_law_395 (by decide) ?_
  refine lv_iadd hx hb dL_law_396 ?_
  refine k_sld (i := i) (j := 2) hx hb hX hbl hS (by omega) hL (nI_add i 2) dL_law_397 ?_
  refine lv_aload_n hx hb dL_law_398 rfl (lv_at hl 0 rfl) ?_
  refine lv_iload hx hb dL_law_399 (lv_at hl 4 rfl) ?_
  refine lv_iconst (v := 3) hx hb dL_law_401 (by decide) ?_
  refine lv_iadd hx hb dL_law_402 ?_
  refine k_sld (i := i) (j := 3) hx hb hX hbl hS (by omega) hL (nI_add i 3) dL_law_403 ?_
  refine lv_aload_n hx hb dL_law_404 rfl (lv_at hl 3 rfl) ?_
  obtain ⟨R9, S9, T9, Bg9, ln9, fd9, fe9, fo9, fi9, fs9, fk9, ft9, fD9, fS9, fI9, fB9, fT9, wr9, up9, bk9, fL9, c9, b9, hR9, h1, h2, hout⟩ := st_poke l dC dI cI cJ o qd ad qe ae qo ao r qi ai qs aS qk ak qt aT ja h d1 s1 i1 b1 t1 n R S T Bg ln fd fe fo fi fs fk ft fD fS fI fB fT wr up bk th fL hR hst (xs (i + 1)) (xs (i + 2)) (xs (i + 3))
  refine k_afH (wc := wJ cI cJ o qd ad qe ae qo ao r qi ai qs aS qk ak qt aT ja n R S T Bg fd fe fo fi fs fk ft wr up bk fL) (ws' := wL cI cJ o qd ad qe ae qo ao r qi ai qs aS qk ak qt aT h d1 s1 i1 b1 t1 ja n R9 S9 T9 Bg9 fd9 fe9 fo9 fi9 fs9 fk9 ft9 wr9 up9 bk9 R S T fD fS fI fB fT wr up bk th fL9) (vx_runSW (rest := []) ⟨hx, hb, hml, hown, hts⟩ h1 (vx_cwSW 5 hts gq_L_poke rfl rfl rfl (by decide +kernel) ⟨Nat.le_of_ble_eq_true rfl, Nat.le_of_ble_eq_true rfl⟩) (k_preSH hK hP hD hS hT hZ hN [0, 1, 2, 3, 4, 5, 6, 7, 8, 9, 10, 11, 12, 13, 14, 15, 22] (by decide) rfl rfl) rfl rfl hl.1 rfl (lv_room (Nat.le_of_ble_eq_true rfl)) dL_law_405 ⟨by show cells + 1 ≤ 601024; omega, by show slots + 6 ≤ 7293000; omega⟩) hP hD hS [0, 1, 2, 3, 4, 5, 6, 7, 8, 9, 10, 11, 12, 13, 14, 15, 22] rfl rfl rfl rfl (fun H locs hP hD hS => ?_)
  refine lv_istore (lv' := [(5, .int c9), (0, .ref b), (1, .ref o), (2, .ref h), (3, .ref ja), (4, .int (nI i))]) hx hb dL_law_408 hl (by decide) rfl (fun ls hl => ?_)
  refine lv_aload_n hx hb dL_law_410 rfl (lv_at hl 3 rfl) ?_
  refine lv_aload_n hx hb dL_law_411 rfl (lv_at hl 1 rfl) ?_
  refine lv_iload hx hb dL_law_412 (lv_at hl 5 rfl) ?_
  refine lv_iconst (v := 1) hx hb dL_law_414 (by decide) ?_
  refine lv_iadd hx hb dL_law_415 ?_
  refine k_sld (i := i) (j := 1) hx hb hX hbl hS (by omega) hL (nI_add i 1) dL_law_416 ?_
  refine lv_aload_n hx hb dL_law_417 rfl (lv_at hl 1 rfl) ?_
  refine lv_iload hx hb dL_law_418 (lv_at hl 5 rfl) ?_
  refine lv_iconst (v := 2) hx hb dL_law_420 (by decide) ?_
  refine lv_iadd hx hb dL_law_421 ?_
  refine k_sld (i := i) (j := 2) hx hb hX hbl hS (by omega) hL (nI_add i 2) dL_law_422 ?_
  refine lv_aload_n hx hb dL_law_423 rfl (lv_at hl 1 rfl) ?_
  refine lv_iload hx hb dL_law_424 (lv_at hl 5 rfl) ?_
  refine lv_iconst (v := 3) hx hb dL_law_426 (by decide) ?_
  refine lv_iadd hx hb dL_law_427 ?_
  refine k_sld (i := i) (j := 3) hx hb hX hbl hS (by omega) hL (nI_add i 3) dL_law_428 ?_
  refine k_afW (wc := wM cI h d1 s1 i1 b1 t1 n R S T fD fS fI fB fT wr up bk th) (ws' := wL cI cJ o qd ad qe ae qo ao r qi ai qs aS qk ak qt aT h d1 s1 i1 b1 t1 ja n R9 S9 T9 Bg9 fd9 fe9 fo9 fi9 fs9 fk9 ft9 wr9 up9 bk9 R9 S9 T9 fD9 fS9 fI9 fB9 fT9 wr9 up9 bk9 c9 fL9) (va_runV (rest := []) ⟨hx, hb, hml, hown, hts⟩ h2 (cwV 3 hts gq_X3_poke rfl rfl rfl hdv_X3_poke ⟨Nat.le_of_ble_eq_true rfl, Nat.le_of_ble_eq_true rfl⟩) (k_preVW hK hP hD [16, 17, 18, 19, 20, 21] (by decide) rfl 16 rfl rfl) rfl rfl hl.1 rfl (lv_room (Nat.le_of_ble_eq_true rfl)) dL_law_429 ⟨by show cells + 1 ≤ 601024; omega, by show slots + 6 ≤ 7293000; omega⟩) hP hD hS [16, 17, 18, 19, 20, 21] rfl rfl rfl rfl (fun H locs hP hD hS => ?_)
  refine lv_istore (lv' := [(6, .int b9), (5, .int c9), (0, .ref b), (1, .ref o), (2, .ref h), (3, .ref ja), (4, .int (nI i))]) hx hb dL_law_432 hl (by decide) rfl (fun ls hl => ?_)
  refine lv_aload_n hx hb dL_law_434 rfl (lv_at hl 4 rfl) ?_
  refine k_afP (va_runV (rest := []) ⟨hx, hb, hml, hown, hts⟩ (m_X3_thrown l dC dI cI cJ h d1 s1 i1 b1 t1 fD9 fS9 fI9 fB9 fT9 n R9 S9 T9 bk9 up9 wr9 c9) (cwV 0 hts gq_X3_thrown rfl rfl rfl hdv_X3_thrown ⟨Nat.le_of_ble_eq_true rfl, Nat.le_of_ble_eq_true rfl⟩) (k_preVP hK hP [16, 17, 18, 19, 20, 21] rfl 16 rfl rfl) rfl rfl hl.1 rfl (lv_room (Nat.le_of_ble_eq_true rfl)) dL_law_435 ⟨by show cells + 1 ≤ 601024; omega, by show slots + 6 ≤ 7293000; omega⟩) ?_
  refine lv_iload hx hb dL_law_438 (lv_at hl 1 rfl) ?_
  refine lv_icmp_eq (tgt := 445) hx hb dL_law_440 (by decide) (fun _ => ?_) (fun z => absurd rfl z)
  refine lv_iload hx hb dL_law_445 (lv_at hl 1 rfl) ?_
  refine lv_if_ne (tgt := 462) hx hb dL_law_447 (by decide) (fun _ => ?_) (fun z => ?_)
  · refine lv_goto (tgt := 875) hx hb dL_law_462 (by decide) ?_
    refine W.widen (k := cells + 3) (n := slots + 18) (by omega) (by omega) ?_
    exact kk R9 S9 T9 Bg9 ln9 fd9 fe9 fo9 fi9 fs9 fk9 ft9 fD9 fS9 fI9 fB9 fT9 wr9 up9 bk9 c9 fL9 H locs ls hR9 hP hD hS (lv_sub hl [2, 3, 4, 5, 6] rfl)
  · have z : c9 = 0 := by first | exact z | exact Decidable.of_not_not z
    refine lv_aload_n hx hb dL_law_450 rfl (lv_at hl 5 rfl) ?_
    refine lv_iconst (v := 0) hx hb dL_law_451 (by decide) ?_
    refine k_lald hx hb hK hP 22 rfl dL_law_452 ?_
    refine lv_iload hx hb dL_law_453 (lv_at hl 0 rfl) ?_
    refine lv_i2l (v := b9.toInt64) hx hb dL_law_455 rfl ?_
    refine W.lcmp hx hb dL_law_456 ?_
    rw [hout z, cmp_eq]
    refine lv_if_eq (tgt := 462) hx hb dL_law_457 (by decide) (fun _ => ?_) (fun z => absurd rfl z)
    refine lv_goto (tgt := 875) hx hb dL_law_462 (by decide) ?_
    refine W.widen (k := cells + 3) (n := slots + 18) (by omega) (by omega) ?_
    exact kk R9 S9 T9 Bg9 ln9 fd9 fe9 fo9 fi9 fs9 fk9 ft9 fD9 fS9 fI9 fB9 fT9 wr9 up9 bk9 c9 fL9 H locs ls hR9 hP hD hS (lv_sub hl [2, 3, 4, 5, 6] rfl)
set_option maxHeartbeats 4000000 in
set_option maxRecDepth 100000 in
theorem lc_byteOf {p : Program} {l : Launch} {e : Env} {s : State} {m : MethodId} {below : List Frame} {meth : Method} {c : Code} {dC : Nat → ClassId} {dI : Nat → Nat → Nat} {cI cJ : ClassId} {o qd ad qe ae qo ao r qi ai qs aS qk ak qt aT h d1 s1 i1 b1 t1 ja b n : Nat} {L : Nat} {xs : Nat → Int32} (F : LFix l p s m meth c b L xs dC dI cI cJ) {i cells slots : Nat} (hi : i + 4 ≤ L) (hc : cells + 3 ≤ 601024) (hsl : slots + 18 ≤ 7293000) (kk : LCont p l e s m below meth c dC dI cI cJ o qd ad qe ae qo ao r qi ai qs aS qk ak qt aT h d1 s1 i1 b1 t1 ja b n i (cells + 3) (slots + 18) 875) : LCont p l e s m below meth c dC dI cI cJ o qd ad qe ae qo ao r qi ai qs aS qk ak qt aT h d1 s1 i1 b1 t1 ja b n i cells slots 465 := by
  obtain ⟨hL, C0, hst, hK, hT, hZ, hN⟩ := F
  obtain ⟨hx, hb, hr, hml, hown0, hts0, hX, hbl, hlocks, hgv⟩ := C0
  have hown : s.vm.findClass RL = some m.cls := hown0
  have hts : ∀ w ∈ wqL_law, w.before #[Value.ref b] s = true := fun w h => hts0 w (wqL_law_in w h)
  intro R S T Bg ln fd fe fo fi fs fk ft fD fS fI fB fT wr up bk th fL H locs ls hR hP hD hS hl
  refine lv_aload_n hx hb dL_law_465 rfl (lv_at hl 1 rfl) ?_
  refine lv_aload_n hx hb dL_law_466 rfl (lv_at hl 0 rfl) ?_
  refine lv_iload hx hb dL_law_467 (lv_at hl 4 rfl) ?_
  refine lv_iconst (v := 1) hx hb dL_law_469 (by decide) ?_
  refine lv_iadd hx hb dL_law_470 ?_
  refine k_sld (i := i) (j := 1) hx hb hX hbl hS (by omega) hL (nI_add i 1) dL_law_471 ?_
  refine lv_aload_n hx hb dL_law_472 rfl (lv_at hl 0 rfl) ?_
  refine lv_iload hx hb dL_law_473 (lv_at hl 4 rfl) ?_
  refine lv_iconst (v := 2) hx hb dL_law_475 (by decide) ?_
  refine lv_iadd hx hb dL_law_476 ?_
  refine k_sld (i := i) (j := 2) hx hb hX hbl hS (by omega) hL (nI_add i 2) dL_law_477 ?_
  refine lv_aload_n hx hb dL_law_478 rfl (lv_at hl 3 rfl) ?_
  obtain ⟨R9, S9, T9, Bg9, ln9, fd9, fe9, fo9, fi9, fs9, fk9, ft9, fD9, fS9, fI9, fB9, fT9, wr9, up9, bk9, fL9, c9, b9, hR9, h1, h2, hout⟩ := st_byteOf l dC dI cI cJ o qd ad qe ae qo ao r qi ai qs aS qk ak qt aT ja h d1 s1 i1 b1 t1 n R S T Bg ln fd fe fo fi fs fk ft fD fS fI fB fT wr up bk th fL hR hst (xs (i + 1)) (xs (i + 2))
  refine k_afH (wc := wJ cI cJ o qd ad qe ae qo ao r qi ai qs aS qk ak qt aT ja n R S T Bg fd fe fo fi fs fk ft wr up bk fL) (ws' := wL cI cJ o qd ad qe ae qo ao r qi ai qs aS qk ak qt aT h d1 s1 i1 b1 t1 ja n R9 S9 T9 Bg9 fd9 fe9 fo9 fi9 fs9 fk9 ft9 wr9 up9 bk9 R S T fD fS fI fB fT wr up bk th fL9) (vx_runSW (rest := []) ⟨hx, hb, hml, hown, hts⟩ h1 (vx_cwSW 4 hts gq_L_byteOf rfl rfl rfl (by decide +kernel) ⟨Nat.le_of_ble_eq_true rfl, Nat.le_of_ble_eq_true rfl⟩) (k_preSH hK hP hD hS hT hZ hN [0, 1, 2, 3, 4, 5, 6, 7, 8, 9, 10, 11, 12, 13, 14, 15, 22] (by decide) rfl rfl) rfl rfl hl.1 rfl (lv_room (Nat.le_of_ble_eq_true rfl)) dL_law_479 ⟨by show cells + 1 ≤ 601024; omega, by show slots + 6 ≤ 7293000; omega⟩) hP hD hS [0, 1, 2, 3, 4, 5, 6, 7, 8, 9, 10, 11, 12, 13, 14, 15, 22] rfl rfl rfl rfl (fun H locs hP hD hS => ?_)
  refine lv_istore (lv' := [(5, .int c9), (0, .ref b), (1, .ref o), (2, .ref h), (3, .ref ja), (4, .int (nI i))]) hx hb dL_law_482 hl (by decide) rfl (fun ls hl => ?_)
  refine lv_aload_n hx hb dL_law_484 rfl (lv_at hl 3 rfl) ?_
  refine lv_aload_n hx hb dL_law_485 rfl (lv_at hl 1 rfl) ?_
  refine lv_iload hx hb dL_law_486 (lv_at hl 5 rfl) ?_
  refine lv_iconst (v := 1) hx hb dL_law_488 (by decide) ?_
  refine lv_iadd hx hb dL_law_489 ?_
  refine k_sld (i := i) (j := 1) hx hb hX hbl hS (by omega) hL (nI_add i 1) dL_law_490 ?_
  refine lv_aload_n hx hb dL_law_491 rfl (lv_at hl 1 rfl) ?_
  refine lv_iload hx hb dL_law_492 (lv_at hl 5 rfl) ?_
  refine lv_iconst (v := 2) hx hb dL_law_494 (by decide) ?_
  refine lv_iadd hx hb dL_law_495 ?_
  refine k_sld (i := i) (j := 2) hx hb hX hbl hS (by omega) hL (nI_add i 2) dL_law_496 ?_
  refine k_afW (wc := wM cI h d1 s1 i1 b1 t1 n R S T fD fS fI fB fT wr up bk th) (ws' := wL cI cJ o qd ad qe ae qo ao r qi ai qs aS qk ak qt aT h d1 s1 i1 b1 t1 ja n R9 S9 T9 Bg9 fd9 fe9 fo9 fi9 fs9 fk9 ft9 wr9 up9 bk9 R9 S9 T9 fD9 fS9 fI9 fB9 fT9 wr9 up9 bk9 c9 fL9) (va_runV (rest := []) ⟨hx, hb, hml, hown, hts⟩ h2 (cwV 2 hts gq_X3_byteOf rfl rfl rfl hdv_X3_byteOf ⟨Nat.le_of_ble_eq_true rfl, Nat.le_of_ble_eq_true rfl⟩) (k_preVW hK hP hD [16, 17, 18, 19, 20, 21] (by decide) rfl 16 rfl rfl) rfl rfl hl.1 rfl (lv_room (Nat.le_of_ble_eq_true rfl)) dL_law_497 ⟨by show cells + 1 ≤ 601024; omega, by show slots + 6 ≤ 7293000; omega⟩) hP hD hS [16, 17, 18, 19, 20, 21] rfl rfl rfl rfl (fun H locs hP hD hS => ?_)
  refine lv_istore (lv' := [(6, .int b9), (5, .int c9), (0, .ref b), (1, .ref o), (2, .ref h), (3, .ref ja), (4, .int (nI i))]) hx hb dL_law_500 hl (by decide) rfl (fun ls hl => ?_)
  refine lv_aload_n hx hb dL_law_502 rfl (lv_at hl 4 rfl) ?_
  refine k_afP (va_runV (rest := []) ⟨hx, hb, hml, hown, hts⟩ (m_X3_thrown l dC dI cI cJ h d1 s1 i1 b1 t1 fD9 fS9 fI9 fB9 fT9 n R9 S9 T9 bk9 up9 wr9 c9) (cwV 0 hts gq_X3_thrown rfl rfl rfl hdv_X3_thrown ⟨Nat.le_of_ble_eq_true rfl, Nat.le_of_ble_eq_true rfl⟩) (k_preVP hK hP [16, 17, 18, 19, 20, 21] rfl 16 rfl rfl) rfl rfl hl.1 rfl (lv_room (Nat.le_of_ble_eq_true rfl)) dL_law_503 ⟨by show cells + 1 ≤ 601024; omega, by show slots + 6 ≤ 7293000; omega⟩) ?_
  refine lv_iload hx hb dL_law_506 (lv_at hl 1 rfl) ?_
  refine lv_icmp_eq (tgt := 513) hx hb dL_law_508 (by decide) (fun _ => ?_) (fun z => absurd rfl z)
  refine lv_iload hx hb dL_law_513 (lv_at hl 1 rfl) ?_
  refine lv_if_ne (tgt := 530) hx hb dL_law_515 (by decide) (fun _ => ?_) (fun z => ?_)
  · refine lv_goto (tgt := 875) hx hb dL_law_530 (by decide) ?_
    refine W.widen (k := cells + 3) (n := slots + 18) (by omega) (by omega) ?_
    exact kk R9 S9 T9 Bg9 ln9 fd9 fe9 fo9 fi9 fs9 fk9 ft9 fD9 fS9 fI9 fB9 fT9 wr9 up9 bk9 c9 fL9 H locs ls hR9 hP hD hS (lv_sub hl [2, 3, 4, 5, 6] rfl)
  · have z : c9 = 0 := by first | exact z | exact Decidable.of_not_not z
    refine lv_aload_n hx hb dL_law_518 rfl (lv_at hl 5 rfl) ?_
    refine lv_iconst (v := 0) hx hb dL_law_519 (by decide) ?_
    refine k_lald hx hb hK hP 22 rfl dL_law_520 ?_
    refine lv_iload hx hb dL_law_521 (lv_at hl 0 rfl) ?_
    refine lv_i2l (v := b9.toInt64) hx hb dL_law_523 rfl ?_
    refine W.lcmp hx hb dL_law_524 ?_
    rw [hout z, cmp_eq]
    refine lv_if_eq (tgt := 530) hx hb dL_law_525 (by decide) (fun _ => ?_) (fun z => absurd rfl z)
    refine lv_goto (tgt := 875) hx hb dL_law_530 (by decide) ?_
    refine W.widen (k := cells + 3) (n := slots + 18) (by omega) (by omega) ?_
    exact kk R9 S9 T9 Bg9 ln9 fd9 fe9 fo9 fi9 fs9 fk9 ft9 fD9 fS9 fI9 fB9 fT9 wr9 up9 bk9 c9 fL9 H locs ls hR9 hP hD hS (lv_sub hl [2, 3, 4, 5, 6] rfl)
