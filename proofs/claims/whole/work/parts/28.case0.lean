set_option maxHeartbeats 4000000 in
set_option maxRecDepth 100000 in
theorem lc_add {p : Program} {l : Launch} {e : Env} {s : State} {m : MethodId} {below : List Frame} {meth : Method} {c : Code} {dC : Nat → ClassId} {dI : Nat → Nat → Nat} {cI cJ : ClassId} {o qd ad qe ae qo ao r qi ai qs aS qk ak qt aT h d1 s1 i1 b1 t1 ja b n : Nat} {L : Nat} {xs : Nat → Int32} (F : LFix l p s m meth c b L xs dC dI cI cJ) {i cells slots : Nat} (hi : i + 4 ≤ L) (hc : cells + 3 ≤ 601024) (hsl : slots + 18 ≤ 7293000) (kk : LCont p l e s m below meth c dC dI cI cJ o qd ad qe ae qo ao r qi ai qs aS qk ak qt aT h d1 s1 i1 b1 t1 ja b n i (cells + 3) (slots + 18) 875) : LCont p l e s m below meth c dC dI cI cJ o qd ad qe ae qo ao r qi ai qs aS qk ak qt aT h d1 s1 i1 b1 t1 ja b n i cells slots 124 := by
  obtain ⟨hL, C0, hst, hK, hT, hZ, hN⟩ := F
  obtain ⟨hx, hb, hr, hml, hown0, hts0, hX, hbl, hlocks, hgv⟩ := C0
  have hown : s.vm.findClass RL = some m.cls := hown0
  have hts : ∀ w ∈ wqL_law, w.before #[Value.ref b] s = true := fun w h => hts0 w (wqL_law_in w h)
  intro R S T Bg ln fd fe fo fi fs fk ft fD fS fI fB fT wr up bk th fL H locs ls hR hP hD hS hl
  refine lv_aload_n hx hb dL_law_124 rfl (lv_at hl 1 rfl) ?_
  refine lv_aload_n hx hb dL_law_125 rfl (lv_at hl 0 rfl) ?_
  refine lv_iload hx hb dL_law_126 (lv_at hl 4 rfl) ?_
  refine lv_iconst (v := 1) hx hb dL_law_128 (by decide) ?_
  refine lv_iadd hx hb dL_law_129 ?_
  refine k_sld (i := i) (j := 1) hx hb hX hbl hS (by omega) hL (nI_add i 1) dL_law_130 ?_
  refine lv_aload_n hx hb dL_law_131 rfl (lv_at hl 3 rfl) ?_
  obtain ⟨R9, S9, T9, Bg9, ln9, fd9, fe9, fo9, fi9, fs9, fk9, ft9, fD9, fS9, fI9, fB9, fT9, wr9, up9, bk9, fL9, c9, b9, hR9, h1, h2, hout⟩ := st_add l dC dI cI cJ o qd ad qe ae qo ao r qi ai qs aS qk ak qt aT ja h d1 s1 i1 b1 t1 n R S T Bg ln fd fe fo fi fs fk ft fD fS fI fB fT wr up bk th fL hR hst (xs (i + 1))
  refine k_afH (wc := wJ cI cJ o qd ad qe ae qo ao r qi ai qs aS qk ak qt aT ja n R S T Bg fd fe fo fi fs fk ft wr up bk fL) (ws' := wL cI cJ o qd ad qe ae qo ao r qi ai qs aS qk ak qt aT h d1 s1 i1 b1 t1 ja n R9 S9 T9 Bg9 fd9 fe9 fo9 fi9 fs9 fk9 ft9 wr9 up9 bk9 R S T fD fS fI fB fT wr up bk th fL9) (vx_runSW (rest := []) ⟨hx, hb, hml, hown, hts⟩ h1 (vx_cwSW 3 hts gq_L_add rfl rfl rfl (by decide +kernel) ⟨Nat.le_of_ble_eq_true rfl, Nat.le_of_ble_eq_true rfl⟩) (k_preSH hK hP hD hS hT hZ hN [0, 1, 2, 3, 4, 5, 6, 7, 8, 9, 10, 11, 12, 13, 14, 15, 22] (by decide) rfl rfl) rfl rfl hl.1 rfl (lv_room (Nat.le_of_ble_eq_true rfl)) dL_law_132 ⟨by show cells + 2 ≤ 601024; omega, by show slots + 12 ≤ 7293000; omega⟩) hP hD hS [0, 1, 2, 3, 4, 5, 6, 7, 8, 9, 10, 11, 12, 13, 14, 15, 22] rfl rfl rfl rfl (fun H locs hP hD hS => ?_)
  refine lv_istore (lv' := [(5, .int c9), (0, .ref b), (1, .ref o), (2, .ref h), (3, .ref ja), (4, .int (nI i))]) hx hb dL_law_135 hl (by decide) rfl (fun ls hl => ?_)
  refine lv_aload_n hx hb dL_law_137 rfl (lv_at hl 3 rfl) ?_
  refine lv_aload_n hx hb dL_law_138 rfl (lv_at hl 1 rfl) ?_
  refine lv_iload hx hb dL_law_139 (lv_at hl 5 rfl) ?_
  refine lv_iconst (v := 1) hx hb dL_law_141 (by decide) ?_
  refine lv_iadd hx hb dL_law_142 ?_
  refine k_sld (i := i) (j := 1) hx hb hX hbl hS (by omega) hL (nI_add i 1) dL_law_143 ?_
  refine k_afW (wc := wM cI h d1 s1 i1 b1 t1 n R S T fD fS fI fB fT wr up bk th) (ws' := wL cI cJ o qd ad qe ae qo ao r qi ai qs aS qk ak qt aT h d1 s1 i1 b1 t1 ja n R9 S9 T9 Bg9 fd9 fe9 fo9 fi9 fs9 fk9 ft9 wr9 up9 bk9 R9 S9 T9 fD9 fS9 fI9 fB9 fT9 wr9 up9 bk9 c9 fL9) (va_runV (rest := []) ⟨hx, hb, hml, hown, hts⟩ h2 (cwV 1 hts gq_X3_add rfl rfl rfl hdv_X3_add ⟨Nat.le_of_ble_eq_true rfl, Nat.le_of_ble_eq_true rfl⟩) (k_preVW hK hP hD [16, 17, 18, 19, 20, 21] (by decide) rfl 16 rfl rfl) rfl rfl hl.1 rfl (lv_room (Nat.le_of_ble_eq_true rfl)) dL_law_144 ⟨by show cells + 2 ≤ 601024; omega, by show slots + 12 ≤ 7293000; omega⟩) hP hD hS [16, 17, 18, 19, 20, 21] rfl rfl rfl rfl (fun H locs hP hD hS => ?_)
  refine lv_istore (lv' := [(6, .int b9), (5, .int c9), (0, .ref b), (1, .ref o), (2, .ref h), (3, .ref ja), (4, .int (nI i))]) hx hb dL_law_147 hl (by decide) rfl (fun ls hl => ?_)
  refine lv_aload_n hx hb dL_law_149 rfl (lv_at hl 4 rfl) ?_
  refine k_afP (va_runV (rest := []) ⟨hx, hb, hml, hown, hts⟩ (m_X3_thrown l dC dI cI cJ h d1 s1 i1 b1 t1 fD9 fS9 fI9 fB9 fT9 n R9 S9 T9 bk9 up9 wr9 c9) (cwV 0 hts gq_X3_thrown rfl rfl rfl hdv_X3_thrown ⟨Nat.le_of_ble_eq_true rfl, Nat.le_of_ble_eq_true rfl⟩) (k_preVP hK hP [16, 17, 18, 19, 20, 21] rfl 16 rfl rfl) rfl rfl hl.1 rfl (lv_room (Nat.le_of_ble_eq_true rfl)) dL_law_150 ⟨by show cells + 2 ≤ 601024; omega, by show slots + 12 ≤ 7293000; omega⟩) ?_
  refine lv_iload hx hb dL_law_153 (lv_at hl 1 rfl) ?_
  refine lv_icmp_eq (tgt := 160) hx hb dL_law_155 (by decide) (fun _ => ?_) (fun z => absurd rfl z)
  refine lv_iload hx hb dL_law_160 (lv_at hl 1 rfl) ?_
  refine lv_if_ne (tgt := 177) hx hb dL_law_162 (by decide) (fun _ => ?_) (fun z => ?_)
  · refine lv_goto (tgt := 875) hx hb dL_law_177 (by decide) ?_
    refine W.widen (k := cells + 3) (n := slots + 18) (by omega) (by omega) ?_
    exact kk R9 S9 T9 Bg9 ln9 fd9 fe9 fo9 fi9 fs9 fk9 ft9 fD9 fS9 fI9 fB9 fT9 wr9 up9 bk9 c9 fL9 H locs ls hR9 hP hD hS (lv_sub hl [2, 3, 4, 5, 6] rfl)
  · have z : c9 = 0 := by first | exact z | exact Decidable.of_not_not z
    refine lv_aload_n hx hb dL_law_165 rfl (lv_at hl 5 rfl) ?_
    refine lv_iconst (v := 0) hx hb dL_law_166 (by decide) ?_
    refine k_lald hx hb hK hP 22 rfl dL_law_167 ?_
    refine lv_iload hx hb dL_law_168 (lv_at hl 0 rfl) ?_
    refine lv_i2l (v := b9.toInt64) hx hb dL_law_170 rfl ?_
    refine W.lcmp hx hb dL_law_171 ?_
    rw [hout z, cmp_eq]
    refine lv_if_eq (tgt := 177) hx hb dL_law_172 (by decide) (fun _ => ?_) (fun z => absurd rfl z)
    refine lv_goto (tgt := 875) hx hb dL_law_177 (by decide) ?_
    refine W.widen (k := cells + 3) (n := slots + 18) (by omega) (by omega) ?_
    exact kk R9 S9 T9 Bg9 ln9 fd9 fe9 fo9 fi9 fs9 fk9 ft9 fD9 fS9 fI9 fB9 fT9 wr9 up9 bk9 c9 fL9 H locs ls hR9 hP hD hS (lv_sub hl [2, 3, 4, 5, 6] rfl)
set_option maxHeartbeats 4000000 in
set_option maxRecDepth 100000 in
theorem lc_end {p : Program} {l : Launch} {e : Env} {s : State} {m : MethodId} {below : List Frame} {meth : Method} {c : Code} {dC : Nat → ClassId} {dI : Nat → Nat → Nat} {cI cJ : ClassId} {o qd ad qe ae qo ao r qi ai qs aS qk ak qt aT h d1 s1 i1 b1 t1 ja b n : Nat} {L : Nat} {xs : Nat → Int32} (F : LFix l p s m meth c b L xs dC dI cI cJ) {i cells slots : Nat} (hi : i + 4 ≤ L) (hc : cells + 3 ≤ 601024) (hsl : slots + 18 ≤ 7293000) (kk : LCont p l e s m below meth c dC dI cI cJ o qd ad qe ae qo ao r qi ai qs aS qk ak qt aT h d1 s1 i1 b1 t1 ja b n i (cells + 3) (slots + 18) 875) : LCont p l e s m below meth c dC dI cI cJ o qd ad qe ae qo ao r qi ai qs aS qk ak qt aT h d1 s1 i1 b1 t1 ja b n i cells slots 180 := by
  obtain ⟨hL, C0, hst, hK, hT, hZ, hN⟩ := F
  obtain ⟨hx, hb, hr, hml, hown0, hts0, hX, hbl, hlocks, hgv⟩ := C0
  have hown : s.vm.findClass RL = some m.cls := hown0
  have hts : ∀ w ∈ wqL_law, w.before #[Value.ref b] s = true := fun w h => hts0 w (wqL_law_in w h)
  intro R S T Bg ln fd fe fo fi fs fk ft fD fS fI fB fT wr up bk th fL H locs ls hR hP hD hS hl
  refine lv_aload_n hx hb dL_law_180 rfl (lv_at hl 1 rfl) ?_
  refine lv_aload_n hx hb dL_law_181 rfl (lv_at hl 0 rfl) ?_
  refine lv_iload hx hb dL_law_182 (lv_at hl 4 rfl) ?_
  refine lv_iconst (v := 1) hx hb dL_law_184 (by decide) ?_
  refine lv_iadd hx hb dL_law_185 ?_
  refine k_sld (i := i) (j := 1) hx hb hX hbl hS (by omega) hL (nI_add i 1) dL_law_186 ?_
  refine lv_aload_n hx hb dL_law_187 rfl (lv_at hl 3 rfl) ?_
  obtain ⟨R9, S9, T9, Bg9, ln9, fd9, fe9, fo9, fi9, fs9, fk9, ft9, fD9, fS9, fI9, fB9, fT9, wr9, up9, bk9, fL9, c9, b9, hR9, h1, h2, hout⟩ := st_end l dC dI cI cJ o qd ad qe ae qo ao r qi ai qs aS qk ak qt aT ja h d1 s1 i1 b1 t1 n R S T Bg ln fd fe fo fi fs fk ft fD fS fI fB fT wr up bk th fL hR hst (xs (i + 1))
  refine k_afH (wc := wJ cI cJ o qd ad qe ae qo ao r qi ai qs aS qk ak qt aT ja n R S T Bg fd fe fo fi fs fk ft wr up bk fL) (ws' := wL cI cJ o qd ad qe ae qo ao r qi ai qs aS qk ak qt aT h d1 s1 i1 b1 t1 ja n R9 S9 T9 Bg9 fd9 fe9 fo9 fi9 fs9 fk9 ft9 wr9 up9 bk9 R S T fD fS fI fB fT wr up bk th fL9) (vx_runSW (rest := []) ⟨hx, hb, hml, hown, hts⟩ h1 (vx_cwSW 3 hts gq_L_end rfl rfl rfl (by decide +kernel) ⟨Nat.le_of_ble_eq_true rfl, Nat.le_of_ble_eq_true rfl⟩) (k_preSH hK hP hD hS hT hZ hN [0, 1, 2, 3, 4, 5, 6, 7, 8, 9, 10, 11, 12, 13, 14, 15, 22] (by decide) rfl rfl) rfl rfl hl.1 rfl (lv_room (Nat.le_of_ble_eq_true rfl)) dL_law_188 ⟨by show cells + 3 ≤ 601024; omega, by show slots + 18 ≤ 7293000; omega⟩) hP hD hS [0, 1, 2, 3, 4, 5, 6, 7, 8, 9, 10, 11, 12, 13, 14, 15, 22] rfl rfl rfl rfl (fun H locs hP hD hS => ?_)
  refine lv_istore (lv' := [(5, .int c9), (0, .ref b), (1, .ref o), (2, .ref h), (3, .ref ja), (4, .int (nI i))]) hx hb dL_law_191 hl (by decide) rfl (fun ls hl => ?_)
  refine lv_aload_n hx hb dL_law_193 rfl (lv_at hl 3 rfl) ?_
  refine lv_aload_n hx hb dL_law_194 rfl (lv_at hl 1 rfl) ?_
  refine lv_iload hx hb dL_law_195 (lv_at hl 5 rfl) ?_
  refine lv_iconst (v := 1) hx hb dL_law_197 (by decide) ?_
  refine lv_iadd hx hb dL_law_198 ?_
  refine k_sld (i := i) (j := 1) hx hb hX hbl hS (by omega) hL (nI_add i 1) dL_law_199 ?_
  refine k_afW (wc := wM cI h d1 s1 i1 b1 t1 n R S T fD fS fI fB fT wr up bk th) (ws' := wL cI cJ o qd ad qe ae qo ao r qi ai qs aS qk ak qt aT h d1 s1 i1 b1 t1 ja n R9 S9 T9 Bg9 fd9 fe9 fo9 fi9 fs9 fk9 ft9 wr9 up9 bk9 R9 S9 T9 fD9 fS9 fI9 fB9 fT9 wr9 up9 bk9 c9 fL9) (va_runV (rest := []) ⟨hx, hb, hml, hown, hts⟩ h2 (cwV 1 hts gq_X3_end rfl rfl rfl hdv_X3_end ⟨Nat.le_of_ble_eq_true rfl, Nat.le_of_ble_eq_true rfl⟩) (k_preVW hK hP hD [16, 17, 18, 19, 20, 21] (by decide) rfl 16 rfl rfl) rfl rfl hl.1 rfl (lv_room (Nat.le_of_ble_eq_true rfl)) dL_law_200 ⟨by show cells + 3 ≤ 601024; omega, by show slots + 18 ≤ 7293000; omega⟩) hP hD hS [16, 17, 18, 19, 20, 21] rfl rfl rfl rfl (fun H locs hP hD hS => ?_)
  refine lv_istore (lv' := [(6, .int b9), (5, .int c9), (0, .ref b), (1, .ref o), (2, .ref h), (3, .ref ja), (4, .int (nI i))]) hx hb dL_law_203 hl (by decide) rfl (fun ls hl => ?_)
  refine lv_aload_n hx hb dL_law_205 rfl (lv_at hl 4 rfl) ?_
  refine k_afP (va_runV (rest := []) ⟨hx, hb, hml, hown, hts⟩ (m_X3_thrown l dC dI cI cJ h d1 s1 i1 b1 t1 fD9 fS9 fI9 fB9 fT9 n R9 S9 T9 bk9 up9 wr9 c9) (cwV 0 hts gq_X3_thrown rfl rfl rfl hdv_X3_thrown ⟨Nat.le_of_ble_eq_true rfl, Nat.le_of_ble_eq_true rfl⟩) (k_preVP hK hP [16, 17, 18, 19, 20, 21] rfl 16 rfl rfl) rfl rfl hl.1 rfl (lv_room (Nat.le_of_ble_eq_true rfl)) dL_law_206 ⟨by show cells + 3 ≤ 601024; omega, by show slots + 18 ≤ 7293000; omega⟩) ?_
  refine lv_iload hx hb dL_law_209 (lv_at hl 1 rfl) ?_
  refine lv_icmp_eq (tgt := 216) hx hb dL_law_211 (by decide) (fun _ => ?_) (fun z => absurd rfl z)
  refine lv_iload hx hb dL_law_216 (lv_at hl 1 rfl) ?_
  refine lv_if_ne (tgt := 233) hx hb dL_law_218 (by decide) (fun _ => ?_) (fun z => ?_)
  · refine lv_goto (tgt := 875) hx hb dL_law_233 (by decide) ?_
    refine W.widen (k := cells + 3) (n := slots + 18) (by omega) (by omega) ?_
    exact kk R9 S9 T9 Bg9 ln9 fd9 fe9 fo9 fi9 fs9 fk9 ft9 fD9 fS9 fI9 fB9 fT9 wr9 up9 bk9 c9 fL9 H locs ls hR9 hP hD hS (lv_sub hl [2, 3, 4, 5, 6] rfl)
  · have z : c9 = 0 := by first | exact z | exact Decidable.of_not_not z
    refine lv_aload_n hx hb dL_law_221 rfl (lv_at hl 5 rfl) ?_
    refine lv_iconst (v := 0) hx hb dL_law_222 (by decide) ?_
    refine k_lald hx hb hK hP 22 rfl dL_law_223 ?_
    refine lv_iload hx hb dL_law_224 (lv_at hl 0 rfl) ?_
    refine lv_i2l (v := b9.toInt64) hx hb dL_law_226 rfl ?_
    refine W.lcmp hx hb dL_law_227 ?_
    rw [hout z, cmp_eq]
    refine lv_if_eq (tgt := 233) hx hb dL_law_228 (by decide) (fun _ => ?_) (fun z => absurd rfl z)
    refine lv_goto (tgt := 875) hx hb dL_law_233 (by decide) ?_
    refine W.widen (k := cells + 3) (n := slots + 18) (by omega) (by omega) ?_
    exact kk R9 S9 T9 Bg9 ln9 fd9 fe9 fo9 fi9 fs9 fk9 ft9 fD9 fS9 fI9 fB9 fT9 wr9 up9 bk9 c9 fL9 H locs ls hR9 hP hD hS (lv_sub hl [2, 3, 4, 5, 6] rfl)
set_option maxHeartbeats 4000000 in
set_option maxRecDepth 100000 in
theorem lc_whole {p : Program} {l : Launch} {e : Env} {s : State} {m : MethodId} {below : List Frame} {meth : Method} {c : Code} {dC : Nat → ClassId} {dI : Nat → Nat → Nat} {cI cJ : ClassId} {o qd ad qe ae qo ao r qi ai qs aS qk ak qt aT h d1 s1 i1 b1 t1 ja b n : Nat} {L : Nat} {xs : Nat → Int32} (F : LFix l p s m meth c b L xs dC dI cI cJ) {i cells slots : Nat} (hi : i + 4 ≤ L) (hc : cells + 3 ≤ 601024) (hsl : slots + 18 ≤ 7293000) (kk : LCont p l e s m below meth c dC dI cI cJ o qd ad qe ae qo ao r qi ai qs aS qk ak qt aT h d1 s1 i1 b1 t1 ja b n i (cells + 3) (slots + 18) 875) : LCont p l e s m below meth c dC dI cI cJ o qd ad qe ae qo ao r qi ai qs aS qk ak qt aT h d1 s1 i1 b1 t1 ja b n i cells slots 236 := by
  obtain ⟨hL, C0, hst, hK, hT, hZ, hN⟩ := F
  obtain ⟨hx, hb, hr, hml, hown0, hts0, hX, hbl, hlocks, hgv⟩ := C0
  have hown : s.vm.findClass RL = some m.cls := hown0
  have hts : ∀ w ∈ wqL_law, w.before #[Value.ref b] s = true := fun w h => hts0 w (wqL_law_in w h)
  intro R S T Bg ln fd fe fo fi fs fk ft fD fS fI fB fT wr up bk th fL H locs ls hR hP hD hS hl
  refine lv_aload_n hx hb dL_law_236 rfl (lv_at hl 1 rfl) ?_
  refine lv_aload_n hx hb dL_law_237 rfl (lv_at hl 3 rfl) ?_
  obtain ⟨R9, S9, T9, Bg9, ln9, fd9, fe9, fo9, fi9, fs9, fk9, ft9, fD9, fS9, fI9, fB9, fT9, wr9, up9, bk9, fL9, c9, b9, hR9, h1, h2, hout⟩ := st_whole l dC dI cI cJ o qd ad qe ae qo ao r qi ai qs aS qk ak qt aT ja h d1 s1 i1 b1 t1 n R S T Bg ln fd fe fo fi fs fk ft fD fS fI fB fT wr up bk th fL hR hst 
  refine k_afH (wc := wJ cI cJ o qd ad qe ae qo ao r qi ai qs aS qk ak qt aT ja n R S T Bg fd fe fo fi fs fk ft wr up bk fL) (ws' := wL cI cJ o qd ad qe ae qo ao r qi ai qs aS qk ak qt aT h d1 s1 i1 b1 t1 ja n R9 S9 T9 Bg9 fd9 fe9 fo9 fi9 fs9 fk9 ft9 wr9 up9 bk9 R S T fD fS fI fB fT wr up bk th fL9) (vx_runSW (rest := []) ⟨hx, hb, hml, hown, hts⟩ h1 (vx_cwSW 2 hts gq_L_whole rfl rfl rfl (by decide +kernel) ⟨Nat.le_of_ble_eq_true rfl, Nat.le_of_ble_eq_true rfl⟩) (k_preSH hK hP hD hS hT hZ hN [0, 1, 2, 3, 4, 5, 6, 7, 8, 9, 10, 11, 12, 13, 14, 15, 22] (by decide) rfl rfl) rfl rfl hl.1 rfl (lv_room (Nat.le_of_ble_eq_true rfl)) dL_law_238 ⟨by show cells + 2 ≤ 601024; omega, by show slots + 12 ≤ 7293000; omega⟩) hP hD hS [0, 1, 2, 3, 4, 5, 6, 7, 8, 9, 10, 11, 12, 13, 14, 15, 22] rfl rfl rfl rfl (fun H locs hP hD hS => ?_)
  refine lv_istore (lv' := [(5, .int c9), (0, .ref b), (1, .ref o), (2, .ref h), (3, .ref ja), (4, .int (nI i))]) hx hb dL_law_241 hl (by decide) rfl (fun ls hl => ?_)
  refine lv_aload_n hx hb dL_law_243 rfl (lv_at hl 3 rfl) ?_
  refine k_afW (wc := wM cI h d1 s1 i1 b1 t1 n R S T fD fS fI fB fT wr up bk th) (ws' := wL cI cJ o qd ad qe ae qo ao r qi ai qs aS qk ak qt aT h d1 s1 i1 b1 t1 ja n R9 S9 T9 Bg9 fd9 fe9 fo9 fi9 fs9 fk9 ft9 wr9 up9 bk9 R9 S9 T9 fD9 fS9 fI9 fB9 fT9 wr9 up9 bk9 c9 fL9) (va_runV (rest := []) ⟨hx, hb, hml, hown, hts⟩ h2 (cwV 0 hts gq_X3_whole rfl rfl rfl hdv_X3_whole ⟨Nat.le_of_ble_eq_true rfl, Nat.le_of_ble_eq_true rfl⟩) (k_preVW hK hP hD [16, 17, 18, 19, 20, 21] (by decide) rfl 16 rfl rfl) rfl rfl hl.1 rfl (lv_room (Nat.le_of_ble_eq_true rfl)) dL_law_244 ⟨by show cells + 2 ≤ 601024; omega, by show slots + 12 ≤ 7293000; omega⟩) hP hD hS [16, 17, 18, 19, 20, 21] rfl rfl rfl rfl (fun H locs hP hD hS => ?_)
  refine lv_istore (lv' := [(6, .int b9), (5, .int c9), (0, .ref b), (1, .ref o), (2, .ref h), (3, .ref ja), (4, .int (nI i))]) hx hb dL_law_247 hl (by decide) rfl (fun ls hl => ?_)
  refine lv_aload_n hx hb dL_law_249 rfl (lv_at hl 4 rfl) ?_
  refine k_afP (va_runV (rest := []) ⟨hx, hb, hml, hown, hts⟩ (m_X3_thrown l dC dI cI cJ h d1 s1 i1 b1 t1 fD9 fS9 fI9 fB9 fT9 n R9 S9 T9 bk9 up9 wr9 c9) (cwV 0 hts gq_X3_thrown rfl rfl rfl hdv_X3_thrown ⟨Nat.le_of_ble_eq_true rfl, Nat.le_of_ble_eq_true rfl⟩) (k_preVP hK hP [16, 17, 18, 19, 20, 21] rfl 16 rfl rfl) rfl rfl hl.1 rfl (lv_room (Nat.le_of_ble_eq_true rfl)) dL_law_250 ⟨by show cells + 2 ≤ 601024; omega, by show slots + 12 ≤ 7293000; omega⟩) ?_
  refine lv_iload hx hb dL_law_253 (lv_at hl 1 rfl) ?_
  refine lv_icmp_eq (tgt := 260) hx hb dL_law_255 (by decide) (fun _ => ?_) (fun z => absurd rfl z)
  refine lv_iload hx hb dL_law_260 (lv_at hl 1 rfl) ?_
  refine lv_if_ne (tgt := 277) hx hb dL_law_262 (by decide) (fun _ => ?_) (fun z => ?_)
  · refine lv_goto (tgt := 875) hx hb dL_law_277 (by decide) ?_
    refine W.widen (k := cells + 3) (n := slots + 18) (by omega) (by omega) ?_
    exact kk R9 S9 T9 Bg9 ln9 fd9 fe9 fo9 fi9 fs9 fk9 ft9 fD9 fS9 fI9 fB9 fT9 wr9 up9 bk9 c9 fL9 H locs ls hR9 hP hD hS (lv_sub hl [2, 3, 4, 5, 6] rfl)
  · have z : c9 = 0 := by first | exact z | exact Decidable.of_not_not z
    refine lv_aload_n hx hb dL_law_265 rfl (lv_at hl 5 rfl) ?_
    refine lv_iconst (v := 0) hx hb dL_law_266 (by decide) ?_
    refine k_lald hx hb hK hP 22 rfl dL_law_267 ?_
    refine lv_iload hx hb dL_law_268 (lv_at hl 0 rfl) ?_
    refine lv_i2l (v := b9.toInt64) hx hb dL_law_270 rfl ?_
    refine W.lcmp hx hb dL_law_271 ?_
    rw [hout z, cmp_eq]
    refine lv_if_eq (tgt := 277) hx hb dL_law_272 (by decide) (fun _ => ?_) (fun z => absurd rfl z)
    refine lv_goto (tgt := 875) hx hb dL_law_277 (by decide) ?_
    refine W.widen (k := cells + 3) (n := slots + 18) (by omega) (by omega) ?_
    exact kk R9 S9 T9 Bg9 ln9 fd9 fe9 fo9 fi9 fs9 fk9 ft9 fD9 fS9 fI9 fB9 fT9 wr9 up9 bk9 c9 fL9 H locs ls hR9 hP hD hS (lv_sub hl [2, 3, 4, 5, 6] rfl)
set_option maxHeartbeats 4000000 in
set_option maxRecDepth 100000 in
theorem lc_sync {p : Program} {l : Launch} {e : Env} {s : State} {m : MethodId} {below : List Frame} {meth : Method} {c : Code} {dC : Nat → ClassId} {dI : Nat → Nat → Nat} {cI cJ : ClassId} {o qd ad qe ae qo ao r qi ai qs aS qk ak qt aT h d1 s1 i1 b1 t1 ja b n : Nat} {L : Nat} {xs : Nat → Int32} (F : LFix l p s m meth c b L xs dC dI cI cJ) {i cells slots : Nat} (hi : i + 4 ≤ L) (hc : cells + 3 ≤ 601024) (hsl : slots + 18 ≤ 7293000) (kk : LCont p l e s m below meth c dC dI cI cJ o qd ad qe ae qo ao r qi ai qs aS qk ak qt aT h d1 s1 i1 b1 t1 ja b n i (cells + 3) (slots + 18) 875) : LCont p l e s m below meth c dC dI cI cJ o qd ad qe ae qo ao r qi ai qs aS qk ak qt aT h d1 s1 i1 b1 t1 ja b n i cells slots 280 := by
  obtain ⟨hL, C0, hst, hK, hT, hZ, hN⟩ := F
  obtain ⟨hx, hb, hr, hml, hown0, hts0, hX, hbl, hlocks, hgv⟩ := C0
  have hown : s.vm.findClass RL = some m.cls := hown0
  have hts : ∀ w ∈ wqL_law, w.before #[Value.ref b] s = true := fun w h => hts0 w (wqL_law_in w h)
  intro R S T Bg ln fd fe fo fi fs fk ft fD fS fI fB fT wr up bk th fL H locs ls hR hP hD hS hl
  refine lv_aload_n hx hb dL_law_280 rfl (lv_at hl 1 rfl) ?_
  refine lv_aload_n hx hb dL_law_281 rfl (lv_at hl 3 rfl) ?_
  obtain ⟨R9, S9, T9, Bg9, ln9, fd9, fe9, fo9, fi9, fs9, fk9, ft9, fD9, fS9, fI9, fB9, fT9, wr9, up9, bk9, fL9, c9, b9, hR9, h1, h2, hout⟩ := st_sync l dC dI cI cJ o qd ad qe ae qo ao r qi ai qs aS qk ak qt aT ja h d1 s1 i1 b1 t1 n R S T Bg ln fd fe fo fi fs fk ft fD fS fI fB fT wr up bk th fL hR hst 
  refine k_afH (wc := wJ cI cJ o qd ad qe ae qo ao r qi ai qs aS qk ak qt aT ja n R S T Bg fd fe fo fi fs fk ft wr up bk fL) (ws' := wL cI cJ o qd ad qe ae qo ao r qi ai qs aS qk ak qt aT h d1 s1 i1 b1 t1 ja n R9 S9 T9 Bg9 fd9 fe9 fo9 fi9 fs9 fk9 ft9 wr9 up9 bk9 R S T fD fS fI fB fT wr up bk th fL9) (vx_runSW (rest := []) ⟨hx, hb, hml, hown, hts⟩ h1 (vx_cwSW 2 hts gq_L_sync rfl rfl rfl (by decide +kernel) ⟨Nat.le_of_ble_eq_true rfl, Nat.le_of_ble_eq_true rfl⟩) (k_preSH hK hP hD hS hT hZ hN [0, 1, 2, 3, 4, 5, 6, 7, 8, 9, 10, 11, 12, 13, 14, 15, 22] (by decide) rfl rfl) rfl rfl hl.1 rfl (lv_room (Nat.le_of_ble_eq_true rfl)) dL_law_282 ⟨by show cells + 1 ≤ 601024; omega, by show slots + 6 ≤ 7293000; omega⟩) hP hD hS [0, 1, 2, 3, 4, 5, 6, 7, 8, 9, 10, 11, 12, 13, 14, 15, 22] rfl rfl rfl rfl (fun H locs hP hD hS => ?_)
  refine lv_istore (lv' := [(5, .int c9), (0, .ref b), (1, .ref o), (2, .ref h), (3, .ref ja), (4, .int (nI i))]) hx hb dL_law_285 hl (by decide) rfl (fun ls hl => ?_)
  refine lv_aload_n hx hb dL_law_287 rfl (lv_at hl 3 rfl) ?_
  refine k_afW (wc := wM cI h d1 s1 i1 b1 t1 n R S T fD fS fI fB fT wr up bk th) (ws' := wL cI cJ o qd ad qe ae qo ao r qi ai qs aS qk ak qt aT h d1 s1 i1 b1 t1 ja n R9 S9 T9 Bg9 fd9 fe9 fo9 fi9 fs9 fk9 ft9 wr9 up9 bk9 R9 S9 T9 fD9 fS9 fI9 fB9 fT9 wr9 up9 bk9 c9 fL9) (va_runV (rest := []) ⟨hx, hb, hml, hown, hts⟩ h2 (cwV 0 hts gq_X3_sync rfl rfl rfl hdv_X3_sync ⟨Nat.le_of_ble_eq_true rfl, Nat.le_of_ble_eq_true rfl⟩) (k_preVW hK hP hD [16, 17, 18, 19, 20, 21] (by decide) rfl 16 rfl rfl) rfl rfl hl.1 rfl (lv_room (Nat.le_of_ble_eq_true rfl)) dL_law_288 ⟨by show cells + 1 ≤ 601024; omega, by show slots + 6 ≤ 7293000; omega⟩) hP hD hS [16, 17, 18, 19, 20, 21] rfl rfl rfl rfl (fun H locs hP hD hS => ?_)
  refine lv_istore (lv' := [(6, .int b9), (5, .int c9), (0, .ref b), (1, .ref o), (2, .ref h), (3, .ref ja), (4, .int (nI i))]) hx hb dL_law_291 hl (by decide) rfl (fun ls hl => ?_)
  refine lv_aload_n hx hb dL_law_293 rfl (lv_at hl 4 rfl) ?_
  refine k_afP (va_runV (rest := []) ⟨hx, hb, hml, hown, hts⟩ (m_X3_thrown l dC dI cI cJ h d1 s1 i1 b1 t1 fD9 fS9 fI9 fB9 fT9 n R9 S9 T9 bk9 up9 wr9 c9) (cwV 0 hts gq_X3_thrown rfl rfl rfl hdv_X3_thrown ⟨Nat.le_of_ble_eq_true rfl, Nat.le_of_ble_eq_true rfl⟩) (k_preVP hK hP [16, 17, 18, 19, 20, 21] rfl 16 rfl rfl) rfl rfl hl.1 rfl (lv_room (Nat.le_of_ble_eq_true rfl)) dL_law_294 ⟨by show cells + 1 ≤ 601024; omega, by show slots + 6 ≤ 7293000; omega⟩) ?_
  refine lv_iload hx hb dL_law_297 (lv_at hl 1 rfl) ?_
  refine lv_icmp_eq (tgt := 304) hx hb dL_law_299 (by decide) (fun _ => ?_) (fun z => absurd rfl z)
  refine lv_iload hx hb dL_law_304 (lv_at hl 1 rfl) ?_
  refine lv_if_ne (tgt := 321) hx hb dL_law_306 (by decide) (fun _ => ?_) (fun z => ?_)
  · refine lv_goto (tgt := 875) hx hb dL_law_321 (by decide) ?_
    refine W.widen (k := cells + 3) (n := slots + 18) (by omega) (by omega) ?_
    exact kk R9 S9 T9 Bg9 ln9 fd9 fe9 fo9 fi9 fs9 fk9 ft9 fD9 fS9 fI9 fB9 fT9 wr9 up9 bk9 c9 fL9 H locs ls hR9 hP hD hS (lv_sub hl [2, 3, 4, 5, 6] rfl)
  · have z : c9 = 0 := by first | exact z | exact Decidable.of_not_not z
    refine lv_aload_n hx hb dL_law_309 rfl (lv_at hl 5 rfl) ?_
    refine lv_iconst (v := 0) hx hb dL_law_310 (by decide) ?_
    refine k_lald hx hb hK hP 22 rfl dL_law_311 ?_
    refine lv_iload hx hb dL_law_312 (lv_at hl 0 rfl) ?_
    refine lv_i2l (v := b9.toInt64) hx hb dL_law_314 rfl ?_
    refine W.lcmp hx hb dL_law_315 ?_
    rw [hout z, cmp_eq]
    refine lv_if_eq (tgt := 321) hx hb dL_law_316 (by decide) (fun _ => ?_) (fun z => absurd rfl z)
    refine lv_goto (tgt := 875) hx hb dL_law_321 (by decide) ?_
    refine W.widen (k := cells + 3) (n := slots + 18) (by omega) (by omega) ?_
    exact kk R9 S9 T9 Bg9 ln9 fd9 fe9 fo9 fi9 fs9 fk9 ft9 fD9 fS9 fI9 fB9 fT9 wr9 up9 bk9 c9 fL9 H locs ls hR9 hP hD hS (lv_sub hl [2, 3, 4, 5, 6] rfl)
