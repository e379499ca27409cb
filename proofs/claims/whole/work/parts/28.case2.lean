set_option maxHeartbeats 4000000 in
set_option maxRecDepth 100000 in
theorem lc_row {p : Program} {l : Launch} {e : Env} {s : State} {m : MethodId} {below : List Frame} {meth : Method} {c : Code} {dC : Nat → ClassId} {dI : Nat → Nat → Nat} {cI cJ : ClassId} {o qd ad qe ae qo ao r qi ai qs aS qk ak qt aT h d1 s1 i1 b1 t1 ja b n : Nat} {L : Nat} {xs : Nat → Int32} (F : LFix l p s m meth c b L xs dC dI cI cJ) {i cells slots : Nat} (hi : i + 4 ≤ L) (hc : cells + 3 ≤ 601024) (hsl : slots + 18 ≤ 7293000) (kk : LCont p l e s m below meth c dC dI cI cJ o qd ad qe ae qo ao r qi ai qs aS qk ak qt aT h d1 s1 i1 b1 t1 ja b n i (cells + 3) (slots + 18) 875) : LCont p l e s m below meth c dC dI cI cJ o qd ad qe ae qo ao r qi ai qs aS qk ak qt aT h d1 s1 i1 b1 t1 ja b n i cells slots 533 := by
  obtain ⟨hL, C0, hst, hK, hT, hZ, hN⟩ := F
  obtain ⟨hx, hb, hr, hml, hown0, hts0, hX, hbl, hlocks, hgv⟩ := C0
  have hown : s.vm.findClass RL = some m.cls := hown0
  have hts : ∀ w ∈ wqL_law, w.before #[Value.ref b] s = true := fun w h => hts0 w (wqL_law_in w h)
  intro R S T Bg ln fd fe fo fi fs fk ft fD fS fI fB fT wr up bk th fL H locs ls hR hP hD hS hl
  refine lv_aload_n hx hb dL_law_533 rfl (lv_at hl 1 rfl) ?_
  refine lv_aload_n hx hb dL_law_534 rfl (lv_at hl 0 rfl) ?_
  refine lv_iload hx hb dL_law_535 (lv_at hl 4 rfl) ?_
  refine lv_iconst (v := 1) hx hb dL_law_537 (by decide) ?_
  refine lv_iadd hx hb dL_law_538 ?_
  refine k_sld (i := i) (j := 1) hx hb hX hbl hS (by omega) hL (nI_add i 1) dL_law_539 ?_
  refine lv_aload_n hx hb dL_law_540 rfl (lv_at hl 0 rfl) ?_
  refine lv_iload hx hb dL_law_541 (lv_at hl 4 rfl) ?_
  refine lv_iconst (v := 2) hx hb dL_law_543 (by decide) ?_
  refine lv_iadd hx hb dL_law_544 ?_
  refine k_sld (i := i) (j := 2) hx hb hX hbl hS (by omega) hL (nI_add i 2) dL_law_545 ?_
  refine lv_aload_n hx hb dL_law_546 rfl (lv_at hl 3 rfl) ?_
  obtain ⟨R9, S9, T9, Bg9, ln9, fd9, fe9, fo9, fi9, fs9, fk9, ft9, fD9, fS9, fI9, fB9, fT9, wr9, up9, bk9, fL9, c9, b9, hR9, h1, h2, hout⟩ := st_row l dC dI cI cJ o qd ad qe ae qo ao r qi ai qs aS qk ak qt aT ja h d1 s1 i1 b1 t1 n R S T Bg ln fd fe fo fi fs fk ft fD fS fI fB fT wr up bk th fL hR hst (xs (i + 1)) (xs (i + 2))
  refine k_afH (wc := wJ cI cJ o qd ad qe ae qo ao r qi ai qs aS qk ak qt aT ja n R S T Bg fd fe fo fi fs fk ft wr up bk fL) (ws' := wL cI cJ o qd ad qe ae qo ao r qi ai qs aS qk ak qt aT h d1 s1 i1 b1 t1 ja n R9 S9 T9 Bg9 fd9 fe9 fo9 fi9 fs9 fk9 ft9 wr9 up9 bk9 R S T fD fS fI fB fT wr up bk th fL9) (vx_runSW (rest := []) ⟨hx, hb, hml, hown, hts⟩ h1 (vx_cwSW 4 hts gq_L_row rfl rfl rfl (by decide +kernel) ⟨Nat.le_of_ble_eq_true rfl, Nat.le_of_ble_eq_true rfl⟩) (k_preSH hK hP hD hS hT hZ hN [0, 1, 2, 3, 4, 5, 6, 7, 8, 9, 10, 11, 12, 13, 14, 15, 22] (by decide) rfl rfl) rfl rfl hl.1 rfl (lv_room (Nat.le_of_ble_eq_true rfl)) dL_law_547 ⟨by show cells + 1 ≤ 601024; omega, by show slots + 6 ≤ 7293000; omega⟩) hP hD hS [0, 1, 2, 3, 4, 5, 6, 7, 8, 9, 10, 11, 12, 13, 14, 15, 22] rfl rfl rfl rfl (fun H locs hP hD hS => ?_)
  refine lv_istore (lv' := [(5, .int c9), (0, .ref b), (1, .ref o), (2, .ref h), (3, .ref ja), (4, .int (nI i))]) hx hb dL_law_550 hl (by decide) rfl (fun ls hl => ?_)
  refine lv_aload_n hx hb dL_law_552 rfl (lv_at hl 3 rfl) ?_
  refine lv_aload_n hx hb dL_law_553 rfl (lv_at hl 1 rfl) ?_
  refine lv_iload hx hb dL_law_554 (lv_at hl 5 rfl) ?_
  refine lv_iconst (v := 1) hx hb dL_law_556 (by decide) ?_
  refine lv_iadd hx hb dL_law_557 ?_
  refine k_sld (i := i) (j := 1) hx hb hX hbl hS (by omega) hL (nI_add i 1) dL_law_558 ?_
  refine lv_aload_n hx hb dL_law_559 rfl (lv_at hl 1 rfl) ?_
  refine lv_iload hx hb dL_law_560 (lv_at hl 5 rfl) ?_
  refine lv_iconst (v := 2) hx hb dL_law_562 (by decide) ?_
  refine lv_iadd hx hb dL_law_563 ?_
  refine k_sld (i := i) (j := 2) hx hb hX hbl hS (by omega) hL (nI_add i 2) dL_law_564 ?_
  refine k_afW (wc := wM cI h d1 s1 i1 b1 t1 n R S T fD fS fI fB fT wr up bk th) (ws' := wL cI cJ o qd ad qe ae qo ao r qi ai qs aS qk ak qt aT h d1 s1 i1 b1 t1 ja n R9 S9 T9 Bg9 fd9 fe9 fo9 fi9 fs9 fk9 ft9 wr9 up9 bk9 R9 S9 T9 fD9 fS9 fI9 fB9 fT9 wr9 up9 bk9 c9 fL9) (va_runV (rest := []) ⟨hx, hb, hml, hown, hts⟩ h2 (cwV 2 hts gq_X3_row rfl rfl rfl hdv_X3_row ⟨Nat.le_of_ble_eq_true rfl, Nat.le_of_ble_eq_true rfl⟩) (k_preVW hK hP hD [16, 17, 18, 19, 20, 21] (by decide) rfl 16 rfl rfl) rfl rfl hl.1 rfl (lv_room (Nat.le_of_ble_eq_true rfl)) dL_law_565 ⟨by show cells + 1 ≤ 601024; omega, by show slots + 6 ≤ 7293000; omega⟩) hP hD hS [16, 17, 18, 19, 20, 21] rfl rfl rfl rfl (fun H locs hP hD hS => ?_)
  refine lv_istore (lv' := [(6, .int b9), (5, .int c9), (0, .ref b), (1, .ref o), (2, .ref h), (3, .ref ja), (4, .int (nI i))]) hx hb dL_law_568 hl (by decide) rfl (fun ls hl => ?_)
  refine lv_aload_n hx hb dL_law_570 rfl (lv_at hl 4 rfl) ?_
  refine k_afP (va_runV (rest := []) ⟨hx, hb, hml, hown, hts⟩ (m_X3_thrown l dC dI cI cJ h d1 s1 i1 b1 t1 fD9 fS9 fI9 fB9 fT9 n R9 S9 T9 bk9 up9 wr9 c9) (cwV 0 hts gq_X3_thrown rfl rfl rfl hdv_X3_thrown ⟨Nat.le_of_ble_eq_true rfl, Nat.le_of_ble_eq_true rfl⟩) (k_preVP hK hP [16, 17, 18, 19, 20, 21] rfl 16 rfl rfl) rfl rfl hl.1 rfl (lv_room (Nat.le_of_ble_eq_true rfl)) dL_law_571 ⟨by show cells + 1 ≤ 601024; omega, by show slots + 6 ≤ 7293000; omega⟩) ?_
  refine lv_iload hx hb dL_law_574 (lv_at hl 1 rfl) ?_
  refine lv_icmp_eq (tgt := 581) hx hb dL_law_576 (by decide) (fun _ => ?_) (fun z => absurd rfl z)
  refine lv_iload hx hb dL_law_581 (lv_at hl 1 rfl) ?_
  refine lv_if_ne (tgt := 598) hx hb dL_law_583 (by decide) (fun _ => ?_) (fun z => ?_)
  · refine lv_goto (tgt := 875) hx hb dL_law_598 (by decide) ?_
    refine W.widen (k := cells + 3) (n := slots + 18) (by omega) (by omega) ?_
    exact kk R9 S9 T9 Bg9 ln9 fd9 fe9 fo9 fi9 fs9 fk9 ft9 fD9 fS9 fI9 fB9 fT9 wr9 up9 bk9 c9 fL9 H locs ls hR9 hP hD hS (lv_sub hl [2, 3, 4, 5, 6] rfl)
  · have z : c9 = 0 := by first | exact z | exact Decidable.of_not_not z
    refine lv_aload_n hx hb dL_law_586 rfl (lv_at hl 5 rfl) ?_
    refine lv_iconst (v := 0) hx hb dL_law_587 (by decide) ?_
    refine k_lald hx hb hK hP 22 rfl dL_law_588 ?_
    refine lv_iload hx hb dL_law_589 (lv_at hl 0 rfl) ?_
    refine lv_i2l (v := b9.toInt64) hx hb dL_law_591 rfl ?_
    refine W.lcmp hx hb dL_law_592 ?_
    rw [hout z, cmp_eq]
    refine lv_if_eq (tgt := 598) hx hb dL_law_593 (by decide) (fun _ => ?_) (fun z => absurd rfl z)
    refine lv_goto (tgt := 875) hx hb dL_law_598 (by decide) ?_
    refine W.widen (k := cells + 3) (n := slots + 18) (by omega) (by omega) ?_
    exact kk R9 S9 T9 Bg9 ln9 fd9 fe9 fo9 fi9 fs9 fk9 ft9 fD9 fS9 fI9 fB9 fT9 wr9 up9 bk9 c9 fL9 H locs ls hR9 hP hD hS (lv_sub hl [2, 3, 4, 5, 6] rfl)
set_option maxHeartbeats 4000000 in
set_option maxRecDepth 100000 in
theorem lc_find {p : Program} {l : Launch} {e : Env} {s : State} {m : MethodId} {below : List Frame} {meth : Method} {c : Code} {dC : Nat → ClassId} {dI : Nat → Nat → Nat} {cI cJ : ClassId} {o qd ad qe ae qo ao r qi ai qs aS qk ak qt aT h d1 s1 i1 b1 t1 ja b n : Nat} {L : Nat} {xs : Nat → Int32} (F : LFix l p s m meth c b L xs dC dI cI cJ) {i cells slots : Nat} (hi : i + 4 ≤ L) (hc : cells + 3 ≤ 601024) (hsl : slots + 18 ≤ 7293000) (kk : LCont p l e s m below meth c dC dI cI cJ o qd ad qe ae qo ao r qi ai qs aS qk ak qt aT h d1 s1 i1 b1 t1 ja b n i (cells + 3) (slots + 18) 875) : LCont p l e s m below meth c dC dI cI cJ o qd ad qe ae qo ao r qi ai qs aS qk ak qt aT h d1 s1 i1 b1 t1 ja b n i cells slots 601 := by
  obtain ⟨hL, C0, hst, hK, hT, hZ, hN⟩ := F
  obtain ⟨hx, hb, hr, hml, hown0, hts0, hX, hbl, hlocks, hgv⟩ := C0
  have hown : s.vm.findClass RL = some m.cls := hown0
  have hts : ∀ w ∈ wqL_law, w.before #[Value.ref b] s = true := fun w h => hts0 w (wqL_law_in w h)
  intro R S T Bg ln fd fe fo fi fs fk ft fD fS fI fB fT wr up bk th fL H locs ls hR hP hD hS hl
  refine lv_aload_n hx hb dL_law_601 rfl (lv_at hl 1 rfl) ?_
  refine lv_aload_n hx hb dL_law_602 rfl (lv_at hl 0 rfl) ?_
  refine lv_iload hx hb dL_law_603 (lv_at hl 4 rfl) ?_
  refine lv_iconst (v := 1) hx hb dL_law_605 (by decide) ?_
  refine lv_iadd hx hb dL_law_606 ?_
  refine k_sld (i := i) (j := 1) hx hb hX hbl hS (by omega) hL (nI_add i 1) dL_law_607 ?_
  refine lv_aload_n hx hb dL_law_608 rfl (lv_at hl 0 rfl) ?_
  refine lv_iload hx hb dL_law_609 (lv_at hl 4 rfl) ?_
  refine lv_iconst (v := 2) hx hb dL_law_611 (by decide) ?_
  refine lv_iadd hx hb dL_law_612 ?_
  refine k_sld (i := i) (j := 2) hx hb hX hbl hS (by omega) hL (nI_add i 2) dL_law_613 ?_
  refine lv_aload_n hx hb dL_law_614 rfl (lv_at hl 3 rfl) ?_
  obtain ⟨R9, S9, T9, Bg9, ln9, fd9, fe9, fo9, fi9, fs9, fk9, ft9, fD9, fS9, fI9, fB9, fT9, wr9, up9, bk9, fL9, c9, b9, hR9, h1, h2, hout⟩ := st_find l dC dI cI cJ o qd ad qe ae qo ao r qi ai qs aS qk ak qt aT ja h d1 s1 i1 b1 t1 n R S T Bg ln fd fe fo fi fs fk ft fD fS fI fB fT wr up bk th fL hR hst (xs (i + 1)) (xs (i + 2))
  refine k_afH (wc := wJ cI cJ o qd ad qe ae qo ao r qi ai qs aS qk ak qt aT ja n R S T Bg fd fe fo fi fs fk ft wr up bk fL) (ws' := wL cI cJ o qd ad qe ae qo ao r qi ai qs aS qk ak qt aT h d1 s1 i1 b1 t1 ja n R9 S9 T9 Bg9 fd9 fe9 fo9 fi9 fs9 fk9 ft9 wr9 up9 bk9 R S T fD fS fI fB fT wr up bk th fL9) (vx_runSW (rest := []) ⟨hx, hb, hml, hown, hts⟩ h1 (vx_cwSW 4 hts gq_L_find rfl rfl rfl (by decide +kernel) ⟨Nat.le_of_ble_eq_true rfl, Nat.le_of_ble_eq_true rfl⟩) (k_preSH hK hP hD hS hT hZ hN [0, 1, 2, 3, 4, 5, 6, 7, 8, 9, 10, 11, 12, 13, 14, 15, 22] (by decide) rfl rfl) rfl rfl hl.1 rfl (lv_room (Nat.le_of_ble_eq_true rfl)) dL_law_615 ⟨by show cells + 2 ≤ 601024; omega, by show slots + 12 ≤ 7293000; omega⟩) hP hD hS [0, 1, 2, 3, 4, 5, 6, 7, 8, 9, 10, 11, 12, 13, 14, 15, 22] rfl rfl rfl rfl (fun H locs hP hD hS => ?_)
  refine lv_istore (lv' := [(5, .int c9), (0, .ref b), (1, .ref o), (2, .ref h), (3, .ref ja), (4, .int (nI i))]) hx hb dL_law_618 hl (by decide) rfl (fun ls hl => ?_)
  refine lv_aload_n hx hb dL_law_620 rfl (lv_at hl 3 rfl) ?_
  refine lv_aload_n hx hb dL_law_621 rfl (lv_at hl 1 rfl) ?_
  refine lv_iload hx hb dL_law_622 (lv_at hl 5 rfl) ?_
  refine lv_iconst (v := 1) hx hb dL_law_624 (by decide) ?_
  refine lv_iadd hx hb dL_law_625 ?_
  refine k_sld (i := i) (j := 1) hx hb hX hbl hS (by omega) hL (nI_add i 1) dL_law_626 ?_
  refine lv_aload_n hx hb dL_law_627 rfl (lv_at hl 1 rfl) ?_
  refine lv_iload hx hb dL_law_628 (lv_at hl 5 rfl) ?_
  refine lv_iconst (v := 2) hx hb dL_law_630 (by decide) ?_
  refine lv_iadd hx hb dL_law_631 ?_
  refine k_sld (i := i) (j := 2) hx hb hX hbl hS (by omega) hL (nI_add i 2) dL_law_632 ?_
  refine k_afW (wc := wM cI h d1 s1 i1 b1 t1 n R S T fD fS fI fB fT wr up bk th) (ws' := wL cI cJ o qd ad qe ae qo ao r qi ai qs aS qk ak qt aT h d1 s1 i1 b1 t1 ja n R9 S9 T9 Bg9 fd9 fe9 fo9 fi9 fs9 fk9 ft9 wr9 up9 bk9 R9 S9 T9 fD9 fS9 fI9 fB9 fT9 wr9 up9 bk9 c9 fL9) (va_runV (rest := []) ⟨hx, hb, hml, hown, hts⟩ h2 (cwV 2 hts gq_X3_find rfl rfl rfl hdv_X3_find ⟨Nat.le_of_ble_eq_true rfl, Nat.le_of_ble_eq_true rfl⟩) (k_preVW hK hP hD [16, 17, 18, 19, 20, 21] (by decide) rfl 16 rfl rfl) rfl rfl hl.1 rfl (lv_room (Nat.le_of_ble_eq_true rfl)) dL_law_633 ⟨by show cells + 2 ≤ 601024; omega, by show slots + 12 ≤ 7293000; omega⟩) hP hD hS [16, 17, 18, 19, 20, 21] rfl rfl rfl rfl (fun H locs hP hD hS => ?_)
  refine lv_istore (lv' := [(6, .int b9), (5, .int c9), (0, .ref b), (1, .ref o), (2, .ref h), (3, .ref ja), (4, .int (nI i))]) hx hb dL_law_636 hl (by decide) rfl (fun ls hl => ?_)
  refine lv_aload_n hx hb dL_law_638 rfl (lv_at hl 4 rfl) ?_
  refine k_afP (va_runV (rest := []) ⟨hx, hb, hml, hown, hts⟩ (m_X3_thrown l dC dI cI cJ h d1 s1 i1 b1 t1 fD9 fS9 fI9 fB9 fT9 n R9 S9 T9 bk9 up9 wr9 c9) (cwV 0 hts gq_X3_thrown rfl rfl rfl hdv_X3_thrown ⟨Nat.le_of_ble_eq_true rfl, Nat.le_of_ble_eq_true rfl⟩) (k_preVP hK hP [16, 17, 18, 19, 20, 21] rfl 16 rfl rfl) rfl rfl hl.1 rfl (lv_room (Nat.le_of_ble_eq_true rfl)) dL_law_639 ⟨by show cells + 2 ≤ 601024; omega, by show slots + 12 ≤ 7293000; omega⟩) ?_
  refine lv_iload hx hb dL_law_642 (lv_at hl 1 rfl) ?_
  refine lv_icmp_eq (tgt := 649) hx hb dL_law_644 (by decide) (fun _ => ?_) (fun z => absurd rfl z)
  refine lv_iload hx hb dL_law_649 (lv_at hl 1 rfl) ?_
  refine lv_if_ne (tgt := 666) hx hb dL_law_651 (by decide) (fun _ => ?_) (fun z => ?_)
  · refine lv_goto (tgt := 875) hx hb dL_law_666 (by decide) ?_
    refine W.widen (k := cells + 3) (n := slots + 18) (by omega) (by omega) ?_
    exact kk R9 S9 T9 Bg9 ln9 fd9 fe9 fo9 fi9 fs9 fk9 ft9 fD9 fS9 fI9 fB9 fT9 wr9 up9 bk9 c9 fL9 H locs ls hR9 hP hD hS (lv_sub hl [2, 3, 4, 5, 6] rfl)
  · have z : c9 = 0 := by first | exact z | exact Decidable.of_not_not z
    refine lv_aload_n hx hb dL_law_654 rfl (lv_at hl 5 rfl) ?_
    refine lv_iconst (v := 0) hx hb dL_law_655 (by decide) ?_
    refine k_lald hx hb hK hP 22 rfl dL_law_656 ?_
    refine lv_iload hx hb dL_law_657 (lv_at hl 0 rfl) ?_
    refine lv_i2l (v := b9.toInt64) hx hb dL_law_659 rfl ?_
    refine W.lcmp hx hb dL_law_660 ?_
    rw [hout z, cmp_eq]
    refine lv_if_eq (tgt := 666) hx hb dL_law_661 (by decide) (fun _ => ?_) (fun z => absurd rfl z)
    refine lv_goto (tgt := 875) hx hb dL_law_666 (by decide) ?_
    refine W.widen (k := cells + 3) (n := slots + 18) (by omega) (by omega) ?_
    exact kk R9 S9 T9 Bg9 ln9 fd9 fe9 fo9 fi9 fs9 fk9 ft9 fD9 fS9 fI9 fB9 fT9 wr9 up9 bk9 c9 fL9 H locs ls hR9 hP hD hS (lv_sub hl [2, 3, 4, 5, 6] rfl)
set_option maxHeartbeats 4000000 in
set_option maxRecDepth 100000 in
theorem lc_wrong {p : Program} {l : Launch} {e : Env} {s : State} {m : MethodId} {below : List Frame} {meth : Method} {c : Code} {dC : Nat → ClassId} {dI : Nat → Nat → Nat} {cI cJ : ClassId} {o qd ad qe ae qo ao r qi ai qs aS qk ak qt aT h d1 s1 i1 b1 t1 ja b n : Nat} {L : Nat} {xs : Nat → Int32} (F : LFix l p s m meth c b L xs dC dI cI cJ) {i cells slots : Nat} (hi : i + 4 ≤ L) (hc : cells + 3 ≤ 601024) (hsl : slots + 18 ≤ 7293000) (kk : LCont p l e s m below meth c dC dI cI cJ o qd ad qe ae qo ao r qi ai qs aS qk ak qt aT h d1 s1 i1 b1 t1 ja b n i (cells + 3) (slots + 18) 875) : LCont p l e s m below meth c dC dI cI cJ o qd ad qe ae qo ao r qi ai qs aS qk ak qt aT h d1 s1 i1 b1 t1 ja b n i cells slots 669 := by
  obtain ⟨hL, C0, hst, hK, hT, hZ, hN⟩ := F
  obtain ⟨hx, hb, hr, hml, hown0, hts0, hX, hbl, hlocks, hgv⟩ := C0
  have hown : s.vm.findClass RL = some m.cls := hown0
  have hts : ∀ w ∈ wqL_law, w.before #[Value.ref b] s = true := fun w h => hts0 w (wqL_law_in w h)
  intro R S T Bg ln fd fe fo fi fs fk ft fD fS fI fB fT wr up bk th fL H locs ls hR hP hD hS hl
  refine lv_aload_n hx hb dL_law_669 rfl (lv_at hl 1 rfl) ?_
  obtain ⟨b9, h1, h2⟩ := st_wrong l dC dI cI cJ o qd ad qe ae qo ao r qi ai qs aS qk ak qt aT ja h d1 s1 i1 b1 t1 n R S T Bg ln fd fe fo fi fs fk ft fD fS fI fB fT wr up bk th fL hR 
  refine k_afP (va_runV (rest := []) ⟨hx, hb, hml, hown, hts⟩ h1 (cwV 0 hts gq_X2_wrong rfl rfl rfl ⟨rfl, by decide +kernel⟩ ⟨Nat.le_of_ble_eq_true rfl, Nat.le_of_ble_eq_true rfl⟩) (k_preVP hK hP [0, 1, 2, 3, 4, 5, 6, 7, 8, 9, 10, 11, 12, 13, 14, 15] rfl 0 rfl rfl) rfl rfl hl.1 rfl (lv_room (Nat.le_of_ble_eq_true rfl)) dL_law_670 ⟨by show cells ≤ 601024; omega, by show slots ≤ 7293000; omega⟩) ?_
  refine lv_aload_n hx hb dL_law_673 rfl (lv_at hl 2 rfl) ?_
  refine k_afW (wc := wM cI h d1 s1 i1 b1 t1 n R S T fD fS fI fB fT wr up bk th) (ws' := wL cI cJ o qd ad qe ae qo ao r qi ai qs aS qk ak qt aT h d1 s1 i1 b1 t1 ja n R S T Bg fd fe fo fi fs fk ft wr up bk R S T fD fS fI fB fT wr up bk 0 fL) (va_runV (rest := [.int b9]) ⟨hx, hb, hml, hown, hts⟩ h2 (cwV 0 hts gq_X3_wrong rfl rfl rfl hdv_X3_wrong ⟨Nat.le_of_ble_eq_true rfl, Nat.le_of_ble_eq_true rfl⟩) (k_preVW hK hP hD [16, 17, 18, 19, 20, 21] (by decide) rfl 16 rfl rfl) rfl rfl hl.1 rfl (lv_room (Nat.le_of_ble_eq_true rfl)) dL_law_674 ⟨by show cells ≤ 601024; omega, by show slots ≤ 7293000; omega⟩) hP hD hS [16, 17, 18, 19, 20, 21] rfl rfl rfl rfl (fun H locs hP hD hS => ?_)
  refine lv_icmp_eq (tgt := 875) hx hb dL_law_677 (by decide) (fun _ => ?_) (fun z => absurd rfl z)
  refine W.widen (k := cells + 3) (n := slots + 18) (by omega) (by omega) ?_
  exact kk R S T Bg ln fd fe fo fi fs fk ft fD fS fI fB fT wr up bk 0 fL H locs ls hR hP hD hS hl
set_option maxHeartbeats 4000000 in
set_option maxRecDepth 100000 in
theorem lc_backup {p : Program} {l : Launch} {e : Env} {s : State} {m : MethodId} {below : List Frame} {meth : Method} {c : Code} {dC : Nat → ClassId} {dI : Nat → Nat → Nat} {cI cJ : ClassId} {o qd ad qe ae qo ao r qi ai qs aS qk ak qt aT h d1 s1 i1 b1 t1 ja b n : Nat} {L : Nat} {xs : Nat → Int32} (F : LFix l p s m meth c b L xs dC dI cI cJ) {i cells slots : Nat} (hi : i + 4 ≤ L) (hc : cells + 3 ≤ 601024) (hsl : slots + 18 ≤ 7293000) (kk : LCont p l e s m below meth c dC dI cI cJ o qd ad qe ae qo ao r qi ai qs aS qk ak qt aT h d1 s1 i1 b1 t1 ja b n i (cells + 3) (slots + 18) 875) : LCont p l e s m below meth c dC dI cI cJ o qd ad qe ae qo ao r qi ai qs aS qk ak qt aT h d1 s1 i1 b1 t1 ja b n i cells slots 682 := by
  obtain ⟨hL, C0, hst, hK, hT, hZ, hN⟩ := F
  obtain ⟨hx, hb, hr, hml, hown0, hts0, hX, hbl, hlocks, hgv⟩ := C0
  have hown : s.vm.findClass RL = some m.cls := hown0
  have hts : ∀ w ∈ wqL_law, w.before #[Value.ref b] s = true := fun w h => hts0 w (wqL_law_in w h)
  intro R S T Bg ln fd fe fo fi fs fk ft fD fS fI fB fT wr up bk th fL H locs ls hR hP hD hS hl
  refine lv_aload_n hx hb dL_law_682 rfl (lv_at hl 1 rfl) ?_
  refine lv_aload_n hx hb dL_law_683 rfl (lv_at hl 3 rfl) ?_
  obtain ⟨R9, S9, T9, Bg9, ln9, fd9, fe9, fo9, fi9, fs9, fk9, ft9, fD9, fS9, fI9, fB9, fT9, wr9, up9, bk9, fL9, c9, b9, hR9, h1, h2, hout⟩ := st_backup l dC dI cI cJ o qd ad qe ae qo ao r qi ai qs aS qk ak qt aT ja h d1 s1 i1 b1 t1 n R S T Bg ln fd fe fo fi fs fk ft fD fS fI fB fT wr up bk th fL hR hst 
  refine k_afH (wc := wJ cI cJ o qd ad qe ae qo ao r qi ai qs aS qk ak qt aT ja n R S T Bg fd fe fo fi fs fk ft wr up bk fL) (ws' := wL cI cJ o qd ad qe ae qo ao r qi ai qs aS qk ak qt aT h d1 s1 i1 b1 t1 ja n R9 S9 T9 Bg9 fd9 fe9 fo9 fi9 fs9 fk9 ft9 wr9 up9 bk9 R S T fD fS fI fB fT wr up bk th fL9) (vx_runSW (rest := []) ⟨hx, hb, hml, hown, hts⟩ h1 (vx_cwSW 2 hts gq_L_backup rfl rfl rfl (by decide +kernel) ⟨Nat.le_of_ble_eq_true rfl, Nat.le_of_ble_eq_true rfl⟩) (k_preSH hK hP hD hS hT hZ hN [0, 1, 2, 3, 4, 5, 6, 7, 8, 9, 10, 11, 12, 13, 14, 15, 22] (by decide) rfl rfl) rfl rfl hl.1 rfl (lv_room (Nat.le_of_ble_eq_true rfl)) dL_law_684 ⟨by show cells + 1 ≤ 601024; omega, by show slots + 6 ≤ 7293000; omega⟩) hP hD hS [0, 1, 2, 3, 4, 5, 6, 7, 8, 9, 10, 11, 12, 13, 14, 15, 22] rfl rfl rfl rfl (fun H locs hP hD hS => ?_)
  refine lv_istore (lv' := [(5, .int c9), (0, .ref b), (1, .ref o), (2, .ref h), (3, .ref ja), (4, .int (nI i))]) hx hb dL_law_687 hl (by decide) rfl (fun ls hl => ?_)
  refine lv_aload_n hx hb dL_law_689 rfl (lv_at hl 3 rfl) ?_
  refine k_afW (wc := wM cI h d1 s1 i1 b1 t1 n R S T fD fS fI fB fT wr up bk th) (ws' := wL cI cJ o qd ad qe ae qo ao r qi ai qs aS qk ak qt aT h d1 s1 i1 b1 t1 ja n R9 S9 T9 Bg9 fd9 fe9 fo9 fi9 fs9 fk9 ft9 wr9 up9 bk9 R9 S9 T9 fD9 fS9 fI9 fB9 fT9 wr9 up9 bk9 c9 fL9) (va_runV (rest := []) ⟨hx, hb, hml, hown, hts⟩ h2 (cwV 0 hts gq_X3_backup rfl rfl rfl hdv_X3_backup ⟨Nat.le_of_ble_eq_true rfl, Nat.le_of_ble_eq_true rfl⟩) (k_preVW hK hP hD [16, 17, 18, 19, 20, 21] (by decide) rfl 16 rfl rfl) rfl rfl hl.1 rfl (lv_room (Nat.le_of_ble_eq_true rfl)) dL_law_690 ⟨by show cells + 1 ≤ 601024; omega, by show slots + 6 ≤ 7293000; omega⟩) hP hD hS [16, 17, 18, 19, 20, 21] rfl rfl rfl rfl (fun H locs hP hD hS => ?_)
  refine lv_istore (lv' := [(6, .int b9), (5, .int c9), (0, .ref b), (1, .ref o), (2, .ref h), (3, .ref ja), (4, .int (nI i))]) hx hb dL_law_693 hl (by decide) rfl (fun ls hl => ?_)
  refine lv_aload_n hx hb dL_law_695 rfl (lv_at hl 4 rfl) ?_
  refine k_afP (va_runV (rest := []) ⟨hx, hb, hml, hown, hts⟩ (m_X3_thrown l dC dI cI cJ h d1 s1 i1 b1 t1 fD9 fS9 fI9 fB9 fT9 n R9 S9 T9 bk9 up9 wr9 c9) (cwV 0 hts gq_X3_thrown rfl rfl rfl hdv_X3_thrown ⟨Nat.le_of_ble_eq_true rfl, Nat.le_of_ble_eq_true rfl⟩) (k_preVP hK hP [16, 17, 18, 19, 20, 21] rfl 16 rfl rfl) rfl rfl hl.1 rfl (lv_room (Nat.le_of_ble_eq_true rfl)) dL_law_696 ⟨by show cells + 1 ≤ 601024; omega, by show slots + 6 ≤ 7293000; omega⟩) ?_
  refine lv_iload hx hb dL_law_699 (lv_at hl 1 rfl) ?_
  refine lv_icmp_eq (tgt := 706) hx hb dL_law_701 (by decide) (fun _ => ?_) (fun z => absurd rfl z)
  refine lv_iload hx hb dL_law_706 (lv_at hl 1 rfl) ?_
  refine lv_if_ne (tgt := 723) hx hb dL_law_708 (by decide) (fun _ => ?_) (fun z => ?_)
  · refine lv_goto (tgt := 875) hx hb dL_law_723 (by decide) ?_
    refine W.widen (k := cells + 3) (n := slots + 18) (by omega) (by omega) ?_
    exact kk R9 S9 T9 Bg9 ln9 fd9 fe9 fo9 fi9 fs9 fk9 ft9 fD9 fS9 fI9 fB9 fT9 wr9 up9 bk9 c9 fL9 H locs ls hR9 hP hD hS (lv_sub hl [2, 3, 4, 5, 6] rfl)
  · have z : c9 = 0 := by first | exact z | exact Decidable.of_not_not z
    refine lv_aload_n hx hb dL_law_711 rfl (lv_at hl 5 rfl) ?_
    refine lv_iconst (v := 0) hx hb dL_law_712 (by decide) ?_
    refine k_lald hx hb hK hP 22 rfl dL_law_713 ?_
    refine lv_iload hx hb dL_law_714 (lv_at hl 0 rfl) ?_
    refine lv_i2l (v := b9.toInt64) hx hb dL_law_716 rfl ?_
    refine W.lcmp hx hb dL_law_717 ?_
    rw [hout z, cmp_eq]
    refine lv_if_eq (tgt := 723) hx hb dL_law_718 (by decide) (fun _ => ?_) (fun z => absurd rfl z)
    refine lv_goto (tgt := 875) hx hb dL_law_723 (by decide) ?_
    refine W.widen (k := cells + 3) (n := slots + 18) (by omega) (by omega) ?_
    exact kk R9 S9 T9 Bg9 ln9 fd9 fe9 fo9 fi9 fs9 fk9 ft9 fD9 fS9 fI9 fB9 fT9 wr9 up9 bk9 c9 fL9 H locs ls hR9 hP hD hS (lv_sub hl [2, 3, 4, 5, 6] rfl)
