theorem sub4 {i L : Nat} (hL : L ≤ 2049) (h : ¬ nI L - 4 < nI i) (hi : i < 2 ^ 30) : i + 4 ≤ L := by
  rw [Int32.lt_iff_toInt_lt, show (4 : Int32) = nI 4 from rfl, pk_sub_toInt (by omega) (by omega), nI_toInt (by omega)] at h
  omega
set_option maxHeartbeats 4000000 in
set_option maxRecDepth 100000 in
theorem law_head {p : Program} {l : Launch} {e : Env} {s : State} {m : MethodId} {below : List Frame} {meth : Method} {c : Code} {dC : Nat → ClassId} {dI : Nat → Nat → Nat} {cI cJ : ClassId} {o qd ad qe ae qo ao r qi ai qs aS qk ak qt aT h d1 s1 i1 b1 t1 ja b n : Nat} {L : Nat} {xs : Nat → Int32} (F : LFix l p s m meth c b L xs dC dI cI cJ) {i cells slots : Nat} (hi9 : i < 2 ^ 30) (hc : cells ≤ 601024) (hsl : slots ≤ 7293000) (kk : i + 4 ≤ L → LCont p l e s m below meth c dC dI cI cJ o qd ad qe ae qo ao r qi ai qs aS qk ak qt aT h d1 s1 i1 b1 t1 ja b n i cells slots 42) : LCont p l e s m below meth c dC dI cI cJ o qd ad qe ae qo ao r qi ai qs aS qk ak qt aT h d1 s1 i1 b1 t1 ja b n i cells slots 33 := by
  obtain ⟨hL, C0, hst, hK, hT, hZ, hN⟩ := id F
  obtain ⟨hx, hb, hr, hml, hown0, hts0, hX, hbl, hlocks, hgv⟩ := C0
  intro R S T Bg ln fd fe fo fi fs fk ft fD fS fI fB fT wr up bk th fL H locs ls hR hP hD hS hl
  refine lv_iload hx hb dL_law_33 (lv_at hl 4 rfl) ?_
  refine lv_aload_n hx hb dL_law_35 rfl (lv_at hl 0 rfl) ?_
  refine va_slen (A := lA s) hx hb hX hbl (Nat.not_le.mpr hbl) hS dL_law_36 ?_
  refine lv_iconst (v := 4) hx hb dL_law_37 (by decide) ?_
  refine lv_isub hx hb dL_law_38 ?_
  refine lv_icmp_gt (tgt := 881) hx hb dL_law_39 (by decide) (fun _ => ?_) (fun z => ?_)
  · refine lv_iconst (v := 1) hx hb dL_law_881 (by decide) ?_
    refine va_forget (fun q hq => hS.2.2 q hq) ?_
    refine W.widen (k := 601024) (n := 7293000) hc hsl ?_
    exact lw_ret hx hb hr hlocks dL_law_882
  · exact kk (sub4 hL z hi9) R S T Bg ln fd fe fo fi fs fk ft fD fS fI fB fT wr up bk th fL H locs ls hR hP hD hS hl
set_option maxHeartbeats 4000000 in
set_option maxRecDepth 100000 in
theorem law_inc {p : Program} {l : Launch} {e : Env} {s : State} {m : MethodId} {below : List Frame} {meth : Method} {c : Code} {dC : Nat → ClassId} {dI : Nat → Nat → Nat} {cI cJ : ClassId} {o qd ad qe ae qo ao r qi ai qs aS qk ak qt aT h d1 s1 i1 b1 t1 ja b n : Nat} {L : Nat} {xs : Nat → Int32} (F : LFix l p s m meth c b L xs dC dI cI cJ) {i cells slots : Nat} (kk : LCont p l e s m below meth c dC dI cI cJ o qd ad qe ae qo ao r qi ai qs aS qk ak qt aT h d1 s1 i1 b1 t1 ja b n (i + 4) cells slots 33) : LCont p l e s m below meth c dC dI cI cJ o qd ad qe ae qo ao r qi ai qs aS qk ak qt aT h d1 s1 i1 b1 t1 ja b n i cells slots 875 := by
  obtain ⟨hL, C0, hst, hK, hT, hZ, hN⟩ := id F
  obtain ⟨hx, hb, hr, hml, hown0, hts0, hX, hbl, hlocks, hgv⟩ := C0
  intro R S T Bg ln fd fe fo fi fs fk ft fD fS fI fB fT wr up bk th fL H locs ls hR hP hD hS hl
  refine lv_iinc (v := nI (i + 4)) (lv' := [(4, .int (nI (i + 4))), (0, .ref b), (1, .ref o), (2, .ref h), (3, .ref ja)]) hx hb dL_law_875 hl (k := 4) rfl (nI_add i 4) (by decide) rfl (fun ls hl => ?_)
  refine lv_goto (tgt := 33) hx hb dL_law_878 (by decide) ?_
  exact kk R S T Bg ln fd fe fo fi fs fk ft fD fS fI fB fT wr up bk th fL H locs ls hR hP hD hS (lv_sub hl [1, 2, 3, 4, 0] rfl)
set_option maxHeartbeats 4000000 in
set_option maxRecDepth 100000 in
theorem law_body {p : Program} {l : Launch} {e : Env} {s : State} {m : MethodId} {below : List Frame} {meth : Method} {c : Code} {dC : Nat → ClassId} {dI : Nat → Nat → Nat} {cI cJ : ClassId} {o qd ad qe ae qo ao r qi ai qs aS qk ak qt aT h d1 s1 i1 b1 t1 ja b n : Nat} {L : Nat} {xs : Nat → Int32} (F : LFix l p s m meth c b L xs dC dI cI cJ) {i cells slots : Nat} (hi : i + 4 ≤ L) (hc : cells + 3 ≤ 601024) (hsl : slots + 18 ≤ 7293000) (kk : LCont p l e s m below meth c dC dI cI cJ o qd ad qe ae qo ao r qi ai qs aS qk ak qt aT h d1 s1 i1 b1 t1 ja b n i (cells + 3) (slots + 18) 875) : LCont p l e s m below meth c dC dI cI cJ o qd ad qe ae qo ao r qi ai qs aS qk ak qt aT h d1 s1 i1 b1 t1 ja b n i cells slots 42 := by
  obtain ⟨hL, C0, hst, hK, hT, hZ, hN⟩ := id F
  obtain ⟨hx, hb, hr, hml, hown0, hts0, hX, hbl, hlocks, hgv⟩ := C0
  intro R S T Bg ln fd fe fo fi fs fk ft fD fS fI fB fT wr up bk th fL H locs ls hR hP hD hS hl
  refine lv_aload_n hx hb dL_law_42 rfl (lv_at hl 0 rfl) ?_
  refine lv_iload hx hb dL_law_43 (lv_at hl 4 rfl) ?_
  refine k_sld (i := i) (j := 0) hx hb hX hbl hS (by omega) hL rfl dL_law_45 ?_
  refine lv_bipush (v := 15) hx hb dL_law_46 (by decide) ?_
  refine lv_iand hx hb dL_law_48 ?_
  obtain ⟨q, hq, eq⟩ := pk_andE (xs (i + 0)) (m := 15) 4 (by decide)
  rw [eq]
  have hq : q < 16 := hq
  rcases (show q = 0 ∨ q = 1 ∨ q = 2 ∨ q = 3 ∨ q = 4 ∨ q = 5 ∨ q = 6 ∨ q = 7 ∨ q = 8 ∨ q = 9 ∨ q = 10 ∨ q = 11 ∨ q = 12 ∨ q = 13 ∨ q = 14 ∨ q = 15 by omega) with rfl | rfl | rfl | rfl | rfl | rfl | rfl | rfl | rfl | rfl | rfl | rfl | rfl | rfl | rfl | rfl
  · refine lv_tableIn (off := 75) (tgt := 124) hx hb dL_law_49 (by decide) (by decide) (by decide) (by decide) ?_
    exact lc_add F hi hc hsl kk R S T Bg ln fd fe fo fi fs fk ft fD fS fI fB fT wr up bk th fL H locs ls hR hP hD hS hl
  · refine lv_tableIn (off := 131) (tgt := 180) hx hb dL_law_49 (by decide) (by decide) (by decide) (by decide) ?_
    exact lc_end F hi hc hsl kk R S T Bg ln fd fe fo fi fs fk ft fD fS fI fB fT wr up bk th fL H locs ls hR hP hD hS hl
  · refine lv_tableIn (off := 187) (tgt := 236) hx hb dL_law_49 (by decide) (by decide) (by decide) (by decide) ?_
    exact lc_whole F hi hc hsl kk R S T Bg ln fd fe fo fi fs fk ft fD fS fI fB fT wr up bk th fL H locs ls hR hP hD hS hl
  · refine lv_tableIn (off := 231) (tgt := 280) hx hb dL_law_49 (by decide) (by decide) (by decide) (by decide) ?_
    exact lc_sync F hi hc hsl kk R S T Bg ln fd fe fo fi fs fk ft fD fS fI fB fT wr up bk th fL H locs ls hR hP hD hS hl
  · refine lv_tableIn (off := 275) (tgt := 324) hx hb dL_law_49 (by decide) (by decide) (by decide) (by decide) ?_
    exact lc_cut F hi hc hsl kk R S T Bg ln fd fe fo fi fs fk ft fD fS fI fB fT wr up bk th fL H locs ls hR hP hD hS hl
  · refine lv_tableIn (off := 323) (tgt := 372) hx hb dL_law_49 (by decide) (by decide) (by decide) (by decide) ?_
    exact lc_start F hi hc hsl kk R S T Bg ln fd fe fo fi fs fk ft fD fS fI fB fT wr up bk th fL H locs ls hR hP hD hS hl
  · refine lv_tableIn (off := 336) (tgt := 385) hx hb dL_law_49 (by decide) (by decide) (by decide) (by decide) ?_
    exact lc_poke F hi hc hsl kk R S T Bg ln fd fe fo fi fs fk ft fD fS fI fB fT wr up bk th fL H locs ls hR hP hD hS hl
  · refine lv_tableIn (off := 416) (tgt := 465) hx hb dL_law_49 (by decide) (by decide) (by decide) (by decide) ?_
    exact lc_byteOf F hi hc hsl kk R S T Bg ln fd fe fo fi fs fk ft fD fS fI fB fT wr up bk th fL H locs ls hR hP hD hS hl
  · refine lv_tableIn (off := 484) (tgt := 533) hx hb dL_law_49 (by decide) (by decide) (by decide) (by decide) ?_
    exact lc_row F hi hc hsl kk R S T Bg ln fd fe fo fi fs fk ft fD fS fI fB fT wr up bk th fL H locs ls hR hP hD hS hl
  · refine lv_tableIn (off := 552) (tgt := 601) hx hb dL_law_49 (by decide) (by decide) (by decide) (by decide) ?_
    exact lc_find F hi hc hsl kk R S T Bg ln fd fe fo fi fs fk ft fD fS fI fB fT wr up bk th fL H locs ls hR hP hD hS hl
  · refine lv_tableIn (off := 620) (tgt := 669) hx hb dL_law_49 (by decide) (by decide) (by decide) (by decide) ?_
    exact lc_wrong F hi hc hsl kk R S T Bg ln fd fe fo fi fs fk ft fD fS fI fB fT wr up bk th fL H locs ls hR hP hD hS hl
  · refine lv_tableIn (off := 633) (tgt := 682) hx hb dL_law_49 (by decide) (by decide) (by decide) (by decide) ?_
    exact lc_backup F hi hc hsl kk R S T Bg ln fd fe fo fi fs fk ft fD fS fI fB fT wr up bk th fL H locs ls hR hP hD hS hl
  · refine lv_tableIn (off := 677) (tgt := 726) hx hb dL_law_49 (by decide) (by decide) (by decide) (by decide) ?_
    exact lc_restore F hi hc hsl kk R S T Bg ln fd fe fo fi fs fk ft fD fS fI fB fT wr up bk th fL H locs ls hR hP hD hS hl
  · refine lv_tableIn (off := 721) (tgt := 770) hx hb dL_law_49 (by decide) (by decide) (by decide) (by decide) ?_
    exact lc_total F hi hc hsl kk R S T Bg ln fd fe fo fi fs fk ft fD fS fI fB fT wr up bk th fL H locs ls hR hP hD hS hl
  · refine lv_tableIn (off := 801) (tgt := 850) hx hb dL_law_49 (by decide) (by decide) (by decide) (by decide) ?_
    exact lc_count F hi hc hsl kk R S T Bg ln fd fe fo fi fs fk ft fD fS fI fB fT wr up bk th fL H locs ls hR hP hD hS hl
  · refine lv_tableOut (tgt := 875) hx hb dL_law_49 (by decide) (by decide) ?_
    refine W.widen (k := cells + 3) (n := slots + 18) (by omega) (by omega) ?_
    exact kk R S T Bg ln fd fe fo fi fs fk ft fD fS fI fB fT wr up bk th fL H locs ls hR hP hD hS hl
theorem law_loop {p : Program} {l : Launch} {e : Env} {s : State} {m : MethodId} {below : List Frame} {meth : Method} {c : Code} {dC : Nat → ClassId} {dI : Nat → Nat → Nat} {cI cJ : ClassId} {o qd ad qe ae qo ao r qi ai qs aS qk ak qt aT h d1 s1 i1 b1 t1 ja b n : Nat} {L : Nat} {xs : Nat → Int32} (F : LFix l p s m meth c b L xs dC dI cI cJ) : ∀ (f i cells slots : Nat), L ≤ i + 4 * f → i ≤ 2049 + 4 → cells + 3 * f ≤ 601024 → slots + 18 * f ≤ 7293000 → LCont p l e s m below meth c dC dI cI cJ o qd ad qe ae qo ao r qi ai qs aS qk ak qt aT h d1 s1 i1 b1 t1 ja b n i cells slots 33 := by
  have hL := F.1
  intro f
  induction f with
  | zero =>
    intro i cells slots h1 h2 h3 h4
    exact law_head F (by omega) (by omega) (by omega) (fun z => absurd z (by omega))
  | succ f ih =>
    intro i cells slots h1 h2 h3 h4
    exact law_head F (by omega) (by omega) (by omega) (fun z => law_body F z (by omega) (by omega) (law_inc F (ih (i + 4) (cells + 3) (slots + 18) (by omega) (by omega) (by omega) (by omega))))
