set_option maxHeartbeats 4000000 in
set_option maxRecDepth 100000 in
theorem lc_restore {p : Program} {l : Launch} {e : Env} {s : State} {m : MethodId} {below : List Frame} {meth : Method} {c : Code} {dC : Nat → ClassId} {dI : Nat → Nat → Nat} {cI cJ : ClassId} {o qd ad qe ae qo ao r qi ai qs aS qk ak qt aT h d1 s1 i1 b1 t1 ja b n : Nat} {L : Nat} {xs : Nat → Int32} (F : LFix l p s m meth c b L xs dC dI cI cJ) {i cells slots : Nat} (hi : i + 4 ≤ L) (hc : cells + 3 ≤ 601024) (hsl : slots + 18 ≤ 7293000) (kk : LCont p l e s m below meth c dC dI cI cJ o qd ad qe ae qo ao r qi ai qs aS qk ak qt aT h d1 s1 i1 b1 t1 ja b n i (cells + 3) (slots + 18) 875) : LCont p l e s m below meth c dC dI cI cJ o qd ad qe ae qo ao r qi ai qs aS qk ak qt aT h d1 s1 i1 b1 t1 ja b n i cells slots 726 := by
  obtain ⟨hL, C0, hst, hK, hT, hZ, hN⟩ := F
  obtain ⟨hx, hb, hr, hml, hown0, hts0, hX, hbl, hlocks, hgv⟩ := C0
  have hown : s.vm.findClass RL = some m.cls := hown0
  have hts : ∀ w ∈ wqL_law, w.before #[Value.ref b] s = true := fun w h => hts0 w (wqL_law_in w h)
  intro R S T Bg ln fd fe fo fi fs fk ft fD fS fI fB fT wr up bk th fL H locs ls hR hP hD hS hl
  refine lv_aload_n hx hb dL_law_726 rfl (lv_at hl 1 rfl) ?_
  refine lv_aload_n hx hb dL_law_727 rfl (lv_at hl 3 rfl) ?_
  obtain ⟨R9, S9, T9, Bg9, ln9, fd9, fe9, fo9, fi9, fs9, fk9, ft9, fD9, fS9, fI9, fB9, fT9, wr9, up9, bk9, fL9, c9, b9, hR9, h1, h2, hout⟩ := st_restore l dC dI cI cJ o qd ad qe ae qo ao r qi ai qs aS qk ak qt aT ja h d1 s1 i1 b1 t1 n R S T Bg ln fd fe fo fi fs fk ft fD fS fI fB fT wr up bk th fL hR hst 
  refine k_afH (wc := wJ cI cJ o qd ad qe ae qo ao r qi ai qs aS qk ak qt aT ja n R S T Bg fd fe fo fi fs fk ft wr up bk fL) (ws' := wL cI cJ o qd ad qe ae qo ao r qi ai qs aS qk ak qt aT h d1 s1 i1 b1 t1 ja n R9 S9 T9 Bg9 fd9 fe9 fo9 fi9 fs9 fk9 ft9 wr9 up9 bk9 R S T fD fS fI fB fT wr up bk th fL9) (vx_runSW (rest := []) ⟨hx, hb, hml, hown, hts⟩ h1 (vx_cwSW 2 hts gq_L_restore rfl rfl rfl (by decide +kernel) ⟨Nat.le_of_ble_eq_true rfl, Nat.le_of_ble_eq_true rfl⟩) (k_preSH hK hP hD hS hT hZ hN [0, 1, 2, 3, 4, 5, 6, 7, 8, 9, 10, 11, 12, 13, 14, 15, 22] (by decide) rfl rfl) rfl rfl hl.1 rfl (lv_room (Nat.le_of_ble_eq_true rfl)) dL_law_728 ⟨by show cells + 1 ≤ 601024; omega, by show slots + 6 ≤ 7293000; omega⟩) hP hD hS [0, 1, 2, 3, 4, 5, 6, 7, 8, 9, 10, 11, 12, 13, 14, 15, 22] rfl rfl rfl rfl (fun H locs hP hD hS => ?_)
  refine lv_istore (lv' := [(5, .int c9), (0, .ref b), (1, .ref o), (2, .ref h), (3, .ref ja), (4, .int (nI i))]) hx hb dL_law_731 hl (by decide) rfl (fun ls hl => ?_)
  refine lv_aload_n hx hb dL_law_733 rfl (lv_at hl 3 rfl) ?_
  refine k_afW (wc := wM cI h d1 s1 i1 b1 t1 n R S T fD fS fI fB fT wr up bk th) (ws' := wL cI cJ o qd ad qe ae qo ao r qi ai qs aS qk ak qt aT h d1 s1 i1 b1 t1 ja n R9 S9 T9 Bg9 fd9 fe9 fo9 fi9 fs9 fk9 ft9 wr9 up9 bk9 R9 S9 T9 fD9 fS9 fI9 fB9 fT9 wr9 up9 bk9 c9 fL9) (va_runV (rest := []) ⟨hx, hb, hml, hown, hts⟩ h2 (cwV 0 hts gq_X3_restore rfl rfl rfl hdv_X3_restore ⟨Nat.le_of_ble_eq_true rfl, Nat.le_of_ble_eq_true rfl⟩) (k_preVW hK hP hD [16, 17, 18, 19, 20, 21] (by decide) rfl 16 rfl rfl) rfl rfl hl.1 rfl (lv_room (Nat.le_of_ble_eq_true rfl)) dL_law_734 ⟨by show cells + 1 ≤ 601024; omega, by show slots + 6 ≤ 7293000; omega⟩) hP hD hS [16, 17, 18, 19, 20, 21] rfl rfl rfl rfl (fun H locs hP hD hS => ?_)
  refine lv_istore (lv' := [(6, .int b9), (5, .int c9), (0, .ref b), (1, .ref o), (2, .ref h), (3, .ref ja), (4, .int (nI i))]) hx hb dL_law_737 hl (by decide) rfl (fun ls hl => ?_)
  refine lv_aload_n hx hb dL_law_739 rfl (lv_at hl 4 rfl) ?_
  refine k_afP (va_runV (rest := []) ⟨hx, hb, hml, hown, hts⟩ (m_X3_thrown l dC dI cI cJ h d1 s1 i1 b1 t1 fD9 fS9 fI9 fB9 fT9 n R9 S9 T9 bk9 up9 wr9 c9) (cwV 0 hts gq_X3_thrown rfl rfl rfl hdv_X3_thrown ⟨Nat.le_of_ble_eq_true rfl, Nat.le_of_ble_eq_true rfl⟩) (k_preVP hK hP [16, 17, 18, 19, 20, 21] rfl 16 rfl rfl) rfl rfl hl.1 rfl (lv_room (Nat.le_of_ble_eq_true rfl)) dL_law_740 ⟨by show cells + 1 ≤ 601024; omega, by show slots + 6 ≤ 7293000; omega⟩) ?_
  refine lv_iload hx hb dL_law_743 (lv_at hl 1 rfl) ?_
  refine lv_icmp_eq (tgt := 750) hx hb dL_law_745 (by decide) (fun _ => ?_) (fun z => absurd rfl z)
  refine lv_iload hx hb dL_law_750 (lv_at hl 1 rfl) ?_
  refine lv_if_ne (tgt := 767) hx hb dL_law_752 (by decide) (fun _ => ?_) (fun z => ?_)
  · refine lv_goto (tgt := 875) hx hb dL_law_767 (by decide) ?_
    refine W.widen (k := cells + 3) (n := slots + 18) (by omega) (by omega) ?_
    exact kk R9 S9 T9 Bg9 ln9 fd9 fe9 fo9 fi9 fs9 fk9 ft9 fD9 fS9 fI9 fB9 fT9 wr9 up9 bk9 c9 fL9 H locs ls hR9 hP hD hS (lv_sub hl [2, 3, 4, 5, 6] rfl)
  · have z : c9 = 0 := by first | exact z | exact Decidable.of_not_not z
    refine lv_aload_n hx hb dL_law_755 rfl (lv_at hl 5 rfl) ?_
    refine lv_iconst (v := 0) hx hb dL_law_756 (by decide) ?_
    refine k_lald hx hb hK hP 22 rfl dL_law_757 ?_
    refine lv_iload hx hb dL_law_758 (lv_at hl 0 rfl) ?_
    refine lv_i2l (v := b9.toInt64) hx hb dL_law_760 rfl ?_
    refine W.lcmp hx hb dL_law_761 ?_
    rw [hout z, cmp_eq]
    refine lv_if_eq (tgt := 767) hx hb dL_law_762 (by decide) (fun _ => ?_) (fun z => absurd rfl z)
    refine lv_goto (tgt := 875) hx hb dL_law_767 (by decide) ?_
    refine W.widen (k := cells + 3) (n := slots + 18) (by omega) (by omega) ?_
    exact kk R9 S9 T9 Bg9 ln9 fd9 fe9 fo9 fi9 fs9 fk9 ft9 fD9 fS9 fI9 fB9 fT9 wr9 up9 bk9 c9 fL9 H locs ls hR9 hP hD hS (lv_sub hl [2, 3, 4, 5, 6] rfl)
set_option maxHeartbeats 4000000 in
set_option maxRecDepth 100000 in
theorem lc_total {p : Program} {l : Launch} {e : Env} {s : State} {m : MethodId} {below : List Frame} {meth : Method} {c : Code} {dC : Nat → ClassId} {dI : Nat → Nat → Nat} {cI cJ : ClassId} {o qd ad qe ae qo ao r qi ai qs aS qk ak qt aT h d1 s1 i1 b1 t1 ja b n : Nat} {L : Nat} {xs : Nat → Int32} (F : LFix l p s m meth c b L xs dC dI cI cJ) {i cells slots : Nat} (hi : i + 4 ≤ L) (hc : cells + 3 ≤ 601024) (hsl : slots + 18 ≤ 7293000) (kk : LCont p l e s m below meth c dC dI cI cJ o qd ad qe ae qo ao r qi ai qs aS qk ak qt aT h d1 s1 i1 b1 t1 ja b n i (cells + 3) (slots + 18) 875) : LCont p l e s m below meth c dC dI cI cJ o qd ad qe ae qo ao r qi ai qs aS qk ak qt aT h d1 s1 i1 b1 t1 ja b n i cells slots 770 := by
  obtain ⟨hL, C0, hst, hK, hT, hZ, hN⟩ := F
  obtain ⟨hx, hb, hr, hml, hown0, hts0, hX, hbl, hlocks, hgv⟩ := C0
  have hown : s.vm.findClass RL = some m.cls := hown0
  have hts : ∀ w ∈ wqL_law, w.before #[Value.ref b] s = true := fun w h => hts0 w (wqL_law_in w h)
  intro R S T Bg ln fd fe fo fi fs fk ft fD fS fI fB fT wr up bk th fL H locs ls hR hP hD hS hl
  refine lv_aload_n hx hb dL_law_770 rfl (lv_at hl 1 rfl) ?_
  refine lv_aload_n hx hb dL_law_771 rfl (lv_at hl 0 rfl) ?_
  refine lv_iload hx hb dL_law_772 (lv_at hl 4 rfl) ?_
  refine lv_iconst (v := 1) hx hb dL_law_774 (by decide) ?_
  refine lv_iadd hx hb dL_law_775 ?_
  refine k_sld (i := i) (j := 1) hx hb hX hbl hS (by omega) hL (nI_add i 1) dL_law_776 ?_
  refine lv_aload_n hx hb dL_law_777 rfl (lv_at hl 0 rfl) ?_
  refine lv_iload hx hb dL_law_778 (lv_at hl 4 rfl) ?_
  refine lv_iconst (v := 2) hx hb dL_law_780 (by decide) ?_
  refine lv_iadd hx hb dL_law_781 ?_
  refine k_sld (i := i) (j := 2) hx hb hX hbl hS (by omega) hL (nI_add i 2) dL_law_782 ?_
  refine lv_aload_n hx hb dL_law_783 rfl (lv_at hl 0 rfl) ?_
  refine lv_iload hx hb dL_law_784 (lv_at hl 4 rfl) ?_
  refine lv_iconst (v := 3) hx hb dL_law_786 (by decide) ?_
  refine lv_iadd hx hb dL_law_787 ?_
  refine k_sld (i := i) (j := 3) hx hb hX hbl hS (by omega) hL (nI_add i 3) dL_law_788 ?_
  refine lv_aload_n hx hb dL_law_789 rfl (lv_at hl 3 rfl) ?_
  obtain ⟨R9, S9, T9, Bg9, ln9, fd9, fe9, fo9, fi9, fs9, fk9, ft9, fD9, fS9, fI9, fB9, fT9, wr9, up9, bk9, fL9, c9, b9, hR9, h1, h2, hout⟩ := st_total l dC dI cI cJ o qd ad qe ae qo ao r qi ai qs aS qk ak qt aT ja h d1 s1 i1 b1 t1 n R S T Bg ln fd fe fo fi fs fk ft fD fS fI fB fT wr up bk th fL hR hst (xs (i + 1)) (xs (i + 2)) (xs (i + 3))
  refine k_afH (wc := wJ cI cJ o qd ad qe ae qo ao r qi ai qs aS qk ak qt aT ja n R S T Bg fd fe fo fi fs fk ft wr up bk fL) (ws' := wL cI cJ o qd ad qe ae qo ao r qi ai qs aS qk ak qt aT h d1 s1 i1 b1 t1 ja n R9 S9 T9 Bg9 fd9 fe9 fo9 fi9 fs9 fk9 ft9 wr9 up9 bk9 R S T fD fS fI fB fT wr up bk th fL9) (vx_runSW (rest := []) ⟨hx, hb, hml, hown, hts⟩ h1 (vx_cwSW 5 hts gq_L_total rfl rfl rfl (by decide +kernel) ⟨Nat.le_of_ble_eq_true rfl, Nat.le_of_ble_eq_true rfl⟩) (k_preSH hK hP hD hS hT hZ hN [0, 1, 2, 3, 4, 5, 6, 7, 8, 9, 10, 11, 12, 13, 14, 15, 22] (by decide) rfl rfl) rfl rfl hl.1 rfl (lv_room (Nat.le_of_ble_eq_true rfl)) dL_law_790 ⟨by show cells + 1 ≤ 601024; omega, by show slots + 6 ≤ 7293000; omega⟩) hP hD hS [0, 1, 2, 3, 4, 5, 6, 7, 8, 9, 10, 11, 12, 13, 14, 15, 22] rfl rfl rfl rfl (fun H locs hP hD hS => ?_)
  refine lv_istore (lv' := [(5, .int c9), (0, .ref b), (1, .ref o), (2, .ref h), (3, .ref ja), (4, .int (nI i))]) hx hb dL_law_793 hl (by decide) rfl (fun ls hl => ?_)
  refine lv_aload_n hx hb dL_law_795 rfl (lv_at hl 3 rfl) ?_
  refine lv_aload_n hx hb dL_law_796 rfl (lv_at hl 1 rfl) ?_
  refine lv_iload hx hb dL_law_797 (lv_at hl 5 rfl) ?_
  refine lv_iconst (v := 1) hx hb dL_law_799 (by decide) ?_
  refine lv_iadd hx hb dL_law_800 ?_
  refine k_sld (i := i) (j := 1) hx hb hX hbl hS (by omega) hL (nI_add i 1) dL_law_801 ?_
  refine lv_aload_n hx hb dL_law_802 rfl (lv_at hl 1 rfl) ?_
  refine lv_iload hx hb dL_law_803 (lv_at hl 5 rfl) ?_
  refine lv_iconst (v := 2) hx hb dL_law_805 (by decide) ?_
  refine lv_iadd hx hb dL_law_806 ?_
  refine k_sld (i := i) (j := 2) hx hb hX hbl hS (by omega) hL (nI_add i 2) dL_law_807 ?_
  refine lv_aload_n hx hb dL_law_808 rfl (lv_at hl 1 rfl) ?_
  refine lv_iload hx hb dL_law_809 (lv_at hl 5 rfl) ?_
  refine lv_iconst (v := 3) hx hb dL_law_811 (by decide) ?_
  refine lv_iadd hx hb dL_law_812 ?_
  refine k_sld (i := i) (j := 3) hx hb hX hbl hS (by omega) hL (nI_add i 3) dL_law_813 ?_
  refine k_afW (wc := wM cI h d1 s1 i1 b1 t1 n R S T fD fS fI fB fT wr up bk th) (ws' := wL cI cJ o qd ad qe ae qo ao r qi ai qs aS qk ak qt aT h d1 s1 i1 b1 t1 ja n R9 S9 T9 Bg9 fd9 fe9 fo9 fi9 fs9 fk9 ft9 wr9 up9 bk9 R9 S9 T9 fD9 fS9 fI9 fB9 fT9 wr9 up9 bk9 c9 fL9) (va_runV (rest := []) ⟨hx, hb, hml, hown, hts⟩ h2 (cwV 3 hts gq_X3_total rfl rfl rfl hdv_X3_total ⟨Nat.le_of_ble_eq_true rfl, Nat.le_of_ble_eq_true rfl⟩) (k_preVW hK hP hD [16, 17, 18, 19, 20, 21] (by decide) rfl 16 rfl rfl) rfl rfl hl.1 rfl (lv_room (Nat.le_of_ble_eq_true rfl)) dL_law_814 ⟨by show cells + 1 ≤ 601024; omega, by show slots + 6 ≤ 7293000; omega⟩) hP hD hS [16, 17, 18, 19, 20, 21] rfl rfl rfl rfl (fun H locs hP hD hS => ?_)
  refine lv_istore (lv' := [(6, .int b9), (5, .int c9), (0, .ref b), (1, .ref o), (2, .ref h), (3, .ref ja), (4, .int (nI i))]) hx hb dL_law_817 hl (by decide) rfl (fun ls hl => ?_)
  refine lv_aload_n hx hb dL_law_819 rfl (lv_at hl 4 rfl) ?_
  refine k_afP (va_runV (rest := []) ⟨hx, hb, hml, hown, hts⟩ (m_X3_thrown l dC dI cI cJ h d1 s1 i1 b1 t1 fD9 fS9 fI9 fB9 fT9 n R9 S9 T9 bk9 up9 wr9 c9) (cwV 0 hts gq_X3_thrown rfl rfl rfl hdv_X3_thrown ⟨Nat.le_of_ble_eq_true rfl, Nat.le_of_ble_eq_true rfl⟩) (k_preVP hK hP [16, 17, 18, 19, 20, 21] rfl 16 rfl rfl) rfl rfl hl.1 rfl (lv_room (Nat.le_of_ble_eq_true rfl)) dL_law_820 ⟨by show cells + 1 ≤ 601024; omega, by show slots + 6 ≤ 7293000; omega⟩) ?_
  refine lv_iload hx hb dL_law_823 (lv_at hl 1 rfl) ?_
  refine lv_icmp_eq (tgt := 830) hx hb dL_law_825 (by decide) (fun _ => ?_) (fun z => absurd rfl z)
  refine lv_iload hx hb dL_law_830 (lv_at hl 1 rfl) ?_
  refine lv_if_ne (tgt := 847) hx hb dL_law_832 (by decide) (fun _ => ?_) (fun z => ?_)
  · refine lv_goto (tgt := 875) hx hb dL_law_847 (by decide) ?_
    refine W.widen (k := cells + 3) (n := slots + 18) (by omega) (by omega) ?_
    exact kk R9 S9 T9 Bg9 ln9 fd9 fe9 fo9 fi9 fs9 fk9 ft9 fD9 fS9 fI9 fB9 fT9 wr9 up9 bk9 c9 fL9 H locs ls hR9 hP hD hS (lv_sub hl [2, 3, 4, 5, 6] rfl)
  · have z : c9 = 0 := by first | exact z | exact Decidable.of_not_not z
    refine lv_aload_n hx hb dL_law_835 rfl (lv_at hl 5 rfl) ?_
    refine lv_iconst (v := 0) hx hb dL_law_836 (by decide) ?_
    refine k_lald hx hb hK hP 22 rfl dL_law_837 ?_
    refine lv_iload hx hb dL_law_838 (lv_at hl 0 rfl) ?_
    refine lv_i2l (v := b9.toInt64) hx hb dL_law_840 rfl ?_
    refine W.lcmp hx hb dL_law_841 ?_
    rw [hout z, cmp_eq]
    refine lv_if_eq (tgt := 847) hx hb dL_law_842 (by decide) (fun _ => ?_) (fun z => absurd rfl z)
    refine lv_goto (tgt := 875) hx hb dL_law_847 (by decide) ?_
    refine W.widen (k := cells + 3) (n := slots + 18) (by omega) (by omega) ?_
    exact kk R9 S9 T9 Bg9 ln9 fd9 fe9 fo9 fi9 fs9 fk9 ft9 fD9 fS9 fI9 fB9 fT9 wr9 up9 bk9 c9 fL9 H locs ls hR9 hP hD hS (lv_sub hl [2, 3, 4, 5, 6] rfl)
set_option maxHeartbeats 4000000 in
set_option maxRecDepth 100000 in
theorem lc_count {p : Program} {l : Launch} {e : Env} {s : State} {m : MethodId} {below : List Frame} {meth : Method} {c : Code} {dC : Nat → ClassId} {dI : Nat → Nat → Nat} {cI cJ : ClassId} {o qd ad qe ae qo ao r qi ai qs aS qk ak qt aT h d1 s1 i1 b1 t1 ja b n : Nat} {L : Nat} {xs : Nat → Int32} (F : LFix l p s m meth c b L xs dC dI cI cJ) {i cells slots : Nat} (hi : i + 4 ≤ L) (hc : cells + 3 ≤ 601024) (hsl : slots + 18 ≤ 7293000) (kk : LCont p l e s m below meth c dC dI cI cJ o qd ad qe ae qo ao r qi ai qs aS qk ak qt aT h d1 s1 i1 b1 t1 ja b n i (cells + 3) (slots + 18) 875) : LCont p l e s m below meth c dC dI cI cJ o qd ad qe ae qo ao r qi ai qs aS qk ak qt aT h d1 s1 i1 b1 t1 ja b n i cells slots 850 := by
  obtain ⟨hL, C0, hst, hK, hT, hZ, hN⟩ := F
  obtain ⟨hx, hb, hr, hml, hown0, hts0, hX, hbl, hlocks, hgv⟩ := C0
  have hown : s.vm.findClass RL = some m.cls := hown0
  have hts : ∀ w ∈ wqL_law, w.before #[Value.ref b] s = true := fun w h => hts0 w (wqL_law_in w h)
  intro R S T Bg ln fd fe fo fi fs fk ft fD fS fI fB fT wr up bk th fL H locs ls hR hP hD hS hl
  refine lv_aload_n hx hb dL_law_850 rfl (lv_at hl 1 rfl) ?_
  refine lv_aload_n hx hb dL_law_851 rfl (lv_at hl 0 rfl) ?_
  refine lv_iload hx hb dL_law_852 (lv_at hl 4 rfl) ?_
  refine lv_iconst (v := 1) hx hb dL_law_854 (by decide) ?_
  refine lv_iadd hx hb dL_law_855 ?_
  refine k_sld (i := i) (j := 1) hx hb hX hbl hS (by omega) hL (nI_add i 1) dL_law_856 ?_
  obtain ⟨b9, h1, h2⟩ := st_count l dC dI cI cJ o qd ad qe ae qo ao r qi ai qs aS qk ak qt aT ja h d1 s1 i1 b1 t1 n R S T Bg ln fd fe fo fi fs fk ft fD fS fI fB fT wr up bk th fL hR (xs (i + 1))
  refine k_afP (va_runV (rest := []) ⟨hx, hb, hml, hown, hts⟩ h1 (cwV 1 hts gq_X2_count rfl rfl rfl ⟨rfl, by decide +kernel⟩ ⟨Nat.le_of_ble_eq_true rfl, Nat.le_of_ble_eq_true rfl⟩) (k_preVP hK hP [0, 1, 2, 3, 4, 5, 6, 7, 8, 9, 10, 11, 12, 13, 14, 15] rfl 0 rfl rfl) rfl rfl hl.1 rfl (lv_room (Nat.le_of_ble_eq_true rfl)) dL_law_857 ⟨by show cells ≤ 601024; omega, by show slots ≤ 7293000; omega⟩) ?_
  refine lv_aload_n hx hb dL_law_860 rfl (lv_at hl 2 rfl) ?_
  refine lv_aload_n hx hb dL_law_861 rfl (lv_at hl 0 rfl) ?_
  refine lv_iload hx hb dL_law_862 (lv_at hl 4 rfl) ?_
  refine lv_iconst (v := 1) hx hb dL_law_864 (by decide) ?_
  refine lv_iadd hx hb dL_law_865 ?_
  refine k_sld (i := i) (j := 1) hx hb hX hbl hS (by omega) hL (nI_add i 1) dL_law_866 ?_
  refine k_afW (wc := wM cI h d1 s1 i1 b1 t1 n R S T fD fS fI fB fT wr up bk th) (ws' := wL cI cJ o qd ad qe ae qo ao r qi ai qs aS qk ak qt aT h d1 s1 i1 b1 t1 ja n R S T Bg fd fe fo fi fs fk ft wr up bk R S T fD fS fI fB fT wr up bk 0 fL) (va_runV (rest := [.int b9]) ⟨hx, hb, hml, hown, hts⟩ h2 (cwV 1 hts gq_X3_count rfl rfl rfl hdv_X3_count ⟨Nat.le_of_ble_eq_true rfl, Nat.le_of_ble_eq_true rfl⟩) (k_preVW hK hP hD [16, 17, 18, 19, 20, 21] (by decide) rfl 16 rfl rfl) rfl rfl hl.1 rfl (lv_room (Nat.le_of_ble_eq_true rfl)) dL_law_867 ⟨by show cells ≤ 601024; omega, by show slots ≤ 7293000; omega⟩) hP hD hS [16, 17, 18, 19, 20, 21] rfl rfl rfl rfl (fun H locs hP hD hS => ?_)
  refine lv_icmp_eq (tgt := 875) hx hb dL_law_870 (by decide) (fun _ => ?_) (fun z => absurd rfl z)
  refine W.widen (k := cells + 3) (n := slots + 18) (by omega) (by omega) ?_
  exact kk R S T Bg ln fd fe fo fi fs fk ft fD fS fI fB fT wr up bk 0 fL H locs ls hR hP hD hS hl
