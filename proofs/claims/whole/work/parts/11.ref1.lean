set_option maxHeartbeats 4000000 in
set_option maxRecDepth 100000 in
theorem m_X3_countsRight (l : Launch) (dC : Nat → ClassId) (dI : Nat → Nat → Nat) (cI cJ : ClassId) (h : Nat) (d1 : Nat) (s1 : Nat) (i1 : Nat) (b1 : Nat) (t1 : Nat) (fD : Nat → Int32) (fS : Nat → Int32) (fI : Nat → Int32) (fB : Nat → Int32) (fT : Nat → Int32) (n : Nat) (R : Nat) (S : Nat) (T : Nat) (bk2 : Int32) (up2 : Int32) (wr : Int32) (th : Int32) (Bg : Nat → Nat) (a : Nat) (mm : Nat) (hn : n ≤ 64) (hR9 : R ≤ 227) (hB : ∀ j, j < R → fB j = nI (Bg j) ∧ Bg j + 4 < 2080) (ha : mm = 8 → a + 8 ≤ 2048) (hmm : mm ≤ 255) : cP l yX3_countsRight wsX3_countsRight ({ frames := 2, cells := 0, slots := 0, locals := 45 }) dC dI cI cJ [(h, .inr (4, [.int (nI (32 * n)), .ref d1, .ref s1, .int bk2, .int up2, .ref i1, .ref b1, .int (nI R), .int (nI S), .int wr, .int th, .ref t1, .int (nI T)])), (d1, .inl (cI, 2048, .inl fD)), (s1, .inl (cI, 2048, .inl fS)), (i1, .inl (cI, 2080, .inl fI)), (b1, .inl (cI, 240, .inl fB)), (t1, .inl (cI, 20, .inl fT))] [.ref h, .int (nI a), .int (nI mm)] (if mm = 8 then crN fD a (fun k => cN fI Bg (nI k) R) 1 4 else 0) := by
  refine Met.ofW (cc := cX3_countsRight) (maxL := 4) (ret := (some .boolean)) (by decide) rfl ?_
  intro p e s m args below meth c s₁ B hml hv
  obtain ⟨rfl, hP, hK⟩ := hv
  have hx := B.exec
  have hb := B.bytes
  have hr := B.returns
  have hts := atoms_spec (ws := wsX3_countsRight) B.pre
  have hown : s.vm.findClass RX3 = some m.cls := findClass_of_methodNamed B.named
  have hlocks := B.notSynchronized
  have inX3 : ∀ w ∈ wsX30, w ∈ wsX3_countsRight := fun w h => (List.mem_cons_of_mem _ (List.mem_append_right _ h))
  have fl7 := hts (.fieldLink RX3 7 "StockLogModel" "disk" "[I") (by decide +kernel)
  have fl41 := hts (.fieldLink RX3 41 "StockLogModel" "rows" "I") (by decide +kernel)
  have hl := lv_entry ([.ref h, .int (nI a), .int (nI mm)]) (n := 4) (Nat.le_of_ble_eq_true rfl)
  rw [lg_entry_eq]
  generalize (lg_sl ([.ref h, .int (nI a), .int (nI mm)]) ++ List.replicate (4 - (lg_sl ([.ref h, .int (nI a), .int (nI mm)])).length) Slot.unset).toArray = ls at hl ⊢
  have hl : lv_has ls 4 [(0, .ref h), (1, .int (nI a)), (2, .int (nI mm))] := hl
  refine lv_iload_n hx hb dX3_countsRight_0 rfl (lv_at hl 2 rfl) ?_
  refine lv_bipush (v := 8) hx hb dX3_countsRight_1 (by decide) ?_
  refine lv_icmp_eq (tgt := 8) hx hb dX3_countsRight_3 (by decide) (fun c1 => ?_) (fun c1 => ?_)
  · have nc1 : mm = 8 := (nI_eq (a := mm) (b := 8) (by omega) (by omega)).mp c1
    have ha8 := ha nc1
    refine lv_iconst (v := 1) hx hb dX3_countsRight_8 (by decide) ?_
    refine lv_istore_n (lv' := [(3, .int 1), (0, .ref h), (1, .int (nI a)), (2, .int (nI mm))]) hx hb dX3_countsRight_9 rfl hl (by decide) rfl (fun ls hl => ?_)
    have loop10 : ∀ (n9 : Nat) (k : Nat) (ls : Array Slot), (crN fD a (fun k => cN fI Bg (nI k) R) k (5 - k) = if mm = 8 then crN fD a (fun k => cN fI Bg (nI k) R) 1 4 else 0) → (1 ≤ k) → (k ≤ 5) → 5 - k < n9 → lv_has ls 4 [(3, .int (nI k)), (0, .ref h), (1, .int (nI a)), (2, .int (nI mm))] → W p l e (headSpec wsX3_countsRight ({ frames := 2, cells := 0, slots := 0, locals := 45 })).room s m ([.ref h, .int (nI a), .int (nI mm)] : List Value).toArray below meth c s.heap [] 0 0 (MQ below (vp_Si (fun x => x = if mm = 8 then crN fD a (fun k => cN fI Bg (nI k) R) 1 4 else 0)) ([.ref h, .int (nI a), .int (nI mm)] : List Value).toArray s 0 0 (fun _ => False)) (F0 m 10 ls []) := by
      intro n9
      induction n9 with
      | zero => intro k ls hi hk1 hk5 hm; exact absurd hm (Nat.not_lt_zero _)
      | succ n9 ih =>
        intro k ls hi hk1 hk5 hm hl
        refine lv_iload_n hx hb dX3_countsRight_10 rfl (lv_at hl 0 rfl) ?_
        refine lv_iconst (v := 4) hx hb dX3_countsRight_11 (by decide) ?_
        refine lv_icmp_gt (tgt := 64) hx hb dX3_countsRight_12 (by decide) (fun c2 => ?_) (fun c2 => ?_)
        · have nc2 : 4 < k := (nI_ltI (a := 4) (b := k) (by omega) (by omega)).mp c2
          refine lv_iconst (v := 1) hx hb dX3_countsRight_64 (by decide) ?_
          exact k_zretP (ret := none) hx hb hr hlocks (by rw [← hi, show 5 - k = 0 by omega]; rfl) (Or.inr rfl) rfl dX3_countsRight_65
        · have nc2 : ¬ 4 < k := fun h9 => c2 ((nI_ltI (a := 4) (b := k) (by omega) (by omega)).mpr h9)
          refine lv_sipush (v := 256) hx hb dX3_countsRight_15 (by decide) ?_
          refine lv_aload_n hx hb dX3_countsRight_18 rfl (lv_at hl 1 rfl) ?_
          refine k_get (ci := 4) (T := TX3) (N := 13) (C := RX3) hx hb hts inX3 hown hK hP 0 rfl rfl 1 (by decide) fl7 rfl rfl dX3_countsRight_19 ?_
          refine lv_iload_n hx hb dX3_countsRight_22 rfl (lv_at hl 2 rfl) ?_
          refine lv_iconst (v := 2) hx hb dX3_countsRight_23 (by decide) ?_
          refine lv_iload_n hx hb dX3_countsRight_24 rfl (lv_at hl 0 rfl) ?_
          refine lv_imul hx hb dX3_countsRight_25 ?_
          refine k_nrm (y := nI (2 * k)) (pk_mul 2 k) ?_
          refine lv_iadd hx hb dX3_countsRight_26 ?_
          refine k_nrm (y := nI (a + (2 * k))) (nI_add a (2 * k)) ?_
          refine lv_iconst (v := 2) hx hb dX3_countsRight_27 (by decide) ?_
          refine lv_isub hx hb dX3_countsRight_28 ?_
          refine k_nrm (y := nI ((a + (2 * k)) - 2)) (pk_sub (a := a + (2 * k)) (b := 2) (by omega)) ?_
          refine k_ialdn (i := (a + (2 * k)) - 2) hx hb hK hP 1 rfl (by omega) (by decide) dX3_countsRight_29 ?_
          refine lv_imul hx hb dX3_countsRight_30 ?_
          refine lv_aload_n hx hb dX3_countsRight_31 rfl (lv_at hl 1 rfl) ?_
          refine k_get (ci := 4) (T := TX3) (N := 13) (C := RX3) hx hb hts inX3 hown hK hP 0 rfl rfl 1 (by decide) fl7 rfl rfl dX3_countsRight_32 ?_
          refine lv_iload_n hx hb dX3_countsRight_35 rfl (lv_at hl 2 rfl) ?_
          refine lv_iconst (v := 2) hx hb dX3_countsRight_36 (by decide) ?_
          refine lv_iload_n hx hb dX3_countsRight_37 rfl (lv_at hl 0 rfl) ?_
          refine lv_imul hx hb dX3_countsRight_38 ?_
          refine k_nrm (y := nI (2 * k)) (pk_mul 2 k) ?_
          refine lv_iadd hx hb dX3_countsRight_39 ?_
          refine k_nrm (y := nI (a + (2 * k))) (nI_add a (2 * k)) ?_
          refine lv_iconst (v := 1) hx hb dX3_countsRight_40 (by decide) ?_
          refine lv_isub hx hb dX3_countsRight_41 ?_
          refine k_nrm (y := nI ((a + (2 * k)) - 1)) (pk_sub (a := a + (2 * k)) (b := 1) (by omega)) ?_
          refine k_ialdn (i := (a + (2 * k)) - 1) hx hb hK hP 1 rfl (by omega) (by decide) dX3_countsRight_42 ?_
          refine lv_iadd hx hb dX3_countsRight_43 ?_
          refine lv_aload_n hx hb dX3_countsRight_44 rfl (lv_at hl 1 rfl) ?_
          refine lv_iload_n hx hb dX3_countsRight_45 rfl (lv_at hl 0 rfl) ?_
          refine lv_aload_n hx hb dX3_countsRight_46 rfl (lv_at hl 1 rfl) ?_
          refine k_get (ci := 4) (T := TX3) (N := 13) (C := RX3) hx hb hts inX3 hown hK hP 0 rfl rfl 7 (by decide) fl41 rfl rfl dX3_countsRight_47 ?_
          refine k_afP (va_runV (rest := [.int ((256 * (fD ((a + (2 * k)) - 2))) + (fD ((a + (2 * k)) - 1)))]) ⟨hx, hb, hml, hown, hts⟩ (m_X3_rowsOf l dC dI cI cJ h d1 s1 i1 b1 t1 fD fS fI fB fT n R S T bk2 up2 wr th Bg (nI k) R hB (by omega)) (cwV 2 hts gX3_countsRight_X3_rowsOf rfl rfl rfl hdv_X3_rowsOf ⟨Nat.le_of_ble_eq_true rfl, Nat.le_of_ble_eq_true rfl⟩) (k_preVP hK hP [0, 1, 2, 3, 4, 5] rfl 0 rfl rfl) rfl rfl hl.1 rfl (lv_room (Nat.le_of_ble_eq_true rfl)) dX3_countsRight_50 ⟨Nat.le_of_ble_eq_true rfl, Nat.le_of_ble_eq_true rfl⟩) ?_
          refine lv_icmp_eq (tgt := 58) hx hb dX3_countsRight_53 (by decide) (fun c3 => ?_) (fun c3 => ?_)
          · refine lv_iinc (v := nI (k + 1)) (lv' := [(3, .int (nI (k + 1))), (0, .ref h), (1, .int (nI a)), (2, .int (nI mm))]) hx hb dX3_countsRight_58 hl (k := 0) rfl (nI_1 k) (by decide) rfl (fun ls hl => ?_)
            refine lv_goto (tgt := 10) hx hb dX3_countsRight_61 (by decide) ?_
            exact ih (k + 1) ls (by rw [← hi, show 5 - k = (5 - (k + 1)) + 1 by omega, crN, if_pos c3]) (by omega) (by omega) (by omega) (lv_sub hl [0, 1, 2, 3] rfl)
          · refine lv_iconst (v := 0) hx hb dX3_countsRight_56 (by decide) ?_
            exact k_zretP (ret := none) hx hb hr hlocks (by rw [← hi, show 5 - k = (4 - k) + 1 by omega, crN, if_neg c3]) (Or.inl rfl) rfl dX3_countsRight_57
    exact loop10 _ 1 ls (by rw [if_pos nc1]) (Nat.le_refl _) (by decide) (Nat.lt_succ_self _) (lv_sub hl [0, 1, 2, 3] rfl)
  · have nc1 : ¬ mm = 8 := fun h9 => c1 ((nI_eq (a := mm) (b := 8) (by omega) (by omega)).mpr h9)
    refine lv_iconst (v := 0) hx hb dX3_countsRight_6 (by decide) ?_
    exact k_zretP (ret := none) hx hb hr hlocks (by rw [if_neg nc1]) (Or.inl rfl) rfl dX3_countsRight_7
set_option maxHeartbeats 4000000 in
set_option maxRecDepth 100000 in
theorem m_X3_look (l : Launch) (dC : Nat → ClassId) (dI : Nat → Nat → Nat) (cI cJ : ClassId) (h : Nat) (d1 : Nat) (s1 : Nat) (i1 : Nat) (b1 : Nat) (t1 : Nat) (fD : Nat → Int32) (fS : Nat → Int32) (fI : Nat → Int32) (fB : Nat → Int32) (fT : Nat → Int32) (n : Nat) (R : Nat) (S : Nat) (T : Nat) (bk2 : Int32) (up2 : Int32) (wr : Int32) (th : Int32) (Bg : Nat → Nat) (Db : Nat → Nat) (a : Nat) (hn : n ≤ 64) (hR9 : R ≤ 227) (hB : ∀ j, j < R → fB j = nI (Bg j) ∧ Bg j + 4 < 2080) (hDb : ∀ j, j < 2048 → fD j = nI (Db j) ∧ Db j ≤ 255) (ha : a ≤ 32 * n) : cP l yX3_look wsX3_look ({ frames := 3, cells := 0, slots := 0, locals := 68 }) dC dI cI cJ [(h, .inr (4, [.int (nI (32 * n)), .ref d1, .ref s1, .int bk2, .int up2, .ref i1, .ref b1, .int (nI R), .int (nI S), .int wr, .int th, .ref t1, .int (nI T)])), (d1, .inl (cI, 2048, .inl fD)), (s1, .inl (cI, 2048, .inl fS)), (i1, .inl (cI, 2080, .inl fI)), (b1, .inl (cI, 240, .inl fB)), (t1, .inl (cI, 20, .inl fT))] [.ref h, .int (nI a)] (lkN n fD fI Db Bg R a) := by
  refine Met.ofW (cc := cX3_look) (maxL := 6) (ret := (some .int)) (by decide) rfl ?_
  intro p e s m args below meth c s₁ B hml hv
  obtain ⟨rfl, hP, hK⟩ := hv
  have hx := B.exec
  have hb := B.bytes
  have hr := B.returns
  have hts := atoms_spec (ws := wsX3_look) B.pre
  have hown : s.vm.findClass RX3 = some m.cls := findClass_of_methodNamed B.named
  have hlocks := B.notSynchronized
  have inX3 : ∀ w ∈ wsX30, w ∈ wsX3_look := fun w h => (List.mem_cons_of_mem _ (List.mem_append_right _ h))
  have fl7 := hts (.fieldLink RX3 7 "StockLogModel" "disk" "[I") (by decide +kernel)
  have fl29 := hts (.fieldLink RX3 29 "StockLogModel" "size" "I") (by decide +kernel)
  have fl41 := hts (.fieldLink RX3 41 "StockLogModel" "rows" "I") (by decide +kernel)
  have hl := lv_entry ([.ref h, .int (nI a)]) (n := 6) (Nat.le_of_ble_eq_true rfl)
  rw [lg_entry_eq]
  generalize (lg_sl ([.ref h, .int (nI a)]) ++ List.replicate (6 - (lg_sl ([.ref h, .int (nI a)])).length) Slot.unset).toArray = ls at hl ⊢
  have hl : lv_has ls 6 [(0, .ref h), (1, .int (nI a))] := hl
  refine lv_iconst (v := 1) hx hb dX3_look_0 (by decide) ?_
  refine lv_istore_n (lv' := [(2, .int 1), (0, .ref h), (1, .int (nI a))]) hx hb dX3_look_1 rfl hl (by decide) rfl (fun ls hl => ?_)
  refine lv_iload_n hx hb dX3_look_2 rfl (lv_at hl 2 rfl) ?_
  refine lv_istore_n (lv' := [(3, .int (nI a)), (2, .int 1), (0, .ref h), (1, .int (nI a))]) hx hb dX3_look_3 rfl hl (by decide) rfl (fun ls hl => ?_)
  have loop4 : ∀ (n9 : Nat) (k : Nat) (z : Int32) (ls : Array Slot), (z = zN fD a (k - a)) → (a ≤ k) → (k ≤ 32 * n) → 32 * n - k < n9 → lv_has ls 6 [(3, .int (nI k)), (2, .int z), (0, .ref h), (1, .int (nI a))] → W p l e (headSpec wsX3_look ({ frames := 3, cells := 0, slots := 0, locals := 68 })).room s m ([.ref h, .int (nI a)] : List Value).toArray below meth c s.heap [] 0 0 (MQ below (vp_Si (fun x => x = lkN n fD fI Db Bg R a)) ([.ref h, .int (nI a)] : List Value).toArray s 0 0 (fun _ => False)) (F0 m 4 ls []) := by
    intro n9
    induction n9 with
    | zero => intro k z ls hz hk1 hk2 hm; exact absurd hm (Nat.not_lt_zero _)
    | succ n9 ih =>
      intro k z ls hz hk1 hk2 hm hl
      refine lv_iload_n hx hb dX3_look_4 rfl (lv_at hl 0 rfl) ?_
      refine lv_aload_n hx hb dX3_look_5 rfl (lv_at hl 2 rfl) ?_
      refine k_get (ci := 4) (T := TX3) (N := 13) (C := RX3) hx hb hts inX3 hown hK hP 0 rfl rfl 0 (by decide) fl29 rfl rfl dX3_look_6 ?_
      refine lv_icmp_ge (tgt := 29) hx hb dX3_look_9 (by decide) (fun c1 => ?_) (fun c1 => ?_)
      · have nc1 : (32 * n) ≤ k := (nI_leI (a := 32 * n) (b := k) (by omega) (by omega)).mp c1
        refine lv_iload_n hx hb dX3_look_29 rfl (lv_at hl 1 rfl) ?_
        refine lv_if_eq (tgt := 36) hx hb dX3_look_30 (by decide) (fun c2 => ?_) (fun c2 => ?_)
        · have cz : zN fD a (32 * n - a) = 0 := by rw [show 32 * n - a = k - a by omega, ← hz]; exact c2
          have hz9 := zN_pos cz
          refine lv_aload_n hx hb dX3_look_36 rfl (lv_at hl 2 rfl) ?_
          refine k_get (ci := 4) (T := TX3) (N := 13) (C := RX3) hx hb hts inX3 hown hK hP 0 rfl rfl 1 (by decide) fl7 rfl rfl dX3_look_37 ?_
          refine lv_iload_n hx hb dX3_look_40 rfl (lv_at hl 3 rfl) ?_
          refine k_ialdn (i := a) hx hb hK hP 1 rfl (by omega) (by decide) dX3_look_41 ?_
          refine lv_bipush (v := 90) hx hb dX3_look_42 (by decide) ?_
          refine lv_icmp_eq (tgt := 49) hx hb dX3_look_44 (by decide) (fun c3 => ?_) (fun c3 => ?_)
          · refine lv_iload_n hx hb dX3_look_49 rfl (lv_at hl 3 rfl) ?_
            refine lv_iconst (v := 5) hx hb dX3_look_50 (by decide) ?_
            refine lv_iadd hx hb dX3_look_51 ?_
            refine k_nrm (y := nI (a + 5)) (nI_add a 5) ?_
            refine lv_aload_n hx hb dX3_look_52 rfl (lv_at hl 2 rfl) ?_
            refine k_get (ci := 4) (T := TX3) (N := 13) (C := RX3) hx hb hts inX3 hown hK hP 0 rfl rfl 0 (by decide) fl29 rfl rfl dX3_look_53 ?_
            refine lv_icmp_le (tgt := 61) hx hb dX3_look_56 (by decide) (fun c4 => ?_) (fun c4 => ?_)
            · have nc4 : (a + 5) ≤ (32 * n) := (nI_leI (a := a + 5) (b := 32 * n) (by omega) (by omega)).mp c4
              refine lv_aload_n hx hb dX3_look_61 rfl (lv_at hl 2 rfl) ?_
              refine k_get (ci := 4) (T := TX3) (N := 13) (C := RX3) hx hb hts inX3 hown hK hP 0 rfl rfl 1 (by decide) fl7 rfl rfl dX3_look_62 ?_
              refine lv_iload_n hx hb dX3_look_65 rfl (lv_at hl 3 rfl) ?_
              refine lv_iconst (v := 1) hx hb dX3_look_66 (by decide) ?_
              refine lv_iadd hx hb dX3_look_67 ?_
              refine k_nrm (y := nI (a + 1)) (nI_add a 1) ?_
              refine k_ialdn (i := a + 1) hx hb hK hP 1 rfl (by omega) (by decide) dX3_look_68 ?_
              refine lv_iconst (v := 1) hx hb dX3_look_69 (by decide) ?_
              refine lv_iconst (v := 5) hx hb dX3_look_70 (by decide) ?_
              refine k_afP (va_runS (rest := []) ⟨hx, hb, hml, hown, hts⟩ (m_X3_within l dC dI cI cJ (fD (a + 1)) 1 5 ) (cwS 3 hts gX3_look_X3_within rfl rfl rfl hds_X3_within ⟨Nat.le_of_ble_eq_true rfl, Nat.le_of_ble_eq_true rfl⟩) (k_preSP hK hP [] rfl) rfl rfl hl.1 rfl (lv_room (Nat.le_of_ble_eq_true rfl)) dX3_look_71 ⟨Nat.le_of_ble_eq_true rfl, Nat.le_of_ble_eq_true rfl⟩) ?_
              refine lv_if_ne (tgt := 79) hx hb dX3_look_74 (by decide) (fun c5 => ?_) (fun c5 => ?_)
              · refine lv_sipush (v := 256) hx hb dX3_look_79 (by decide) ?_
                refine lv_aload_n hx hb dX3_look_82 rfl (lv_at hl 2 rfl) ?_
                refine k_get (ci := 4) (T := TX3) (N := 13) (C := RX3) hx hb hts inX3 hown hK hP 0 rfl rfl 1 (by decide) fl7 rfl rfl dX3_look_83 ?_
                refine lv_iload_n hx hb dX3_look_86 rfl (lv_at hl 3 rfl) ?_
                refine lv_iconst (v := 2) hx hb dX3_look_87 (by decide) ?_
                refine lv_iadd hx hb dX3_look_88 ?_
                refine k_nrm (y := nI (a + 2)) (nI_add a 2) ?_
                refine k_ialdn (i := a + 2) hx hb hK hP 1 rfl (by omega) (by decide) dX3_look_89 ?_
                refine lv_imul hx hb dX3_look_90 ?_
                refine lv_aload_n hx hb dX3_look_91 rfl (lv_at hl 2 rfl) ?_
                refine k_get (ci := 4) (T := TX3) (N := 13) (C := RX3) hx hb hts inX3 hown hK hP 0 rfl rfl 1 (by decide) fl7 rfl rfl dX3_look_92 ?_
                refine lv_iload_n hx hb dX3_look_95 rfl (lv_at hl 3 rfl) ?_
                refine lv_iconst (v := 3) hx hb dX3_look_96 (by decide) ?_
                refine lv_iadd hx hb dX3_look_97 ?_
                refine k_nrm (y := nI (a + 3)) (nI_add a 3) ?_
                refine k_ialdn (i := a + 3) hx hb hK hP 1 rfl (by omega) (by decide) dX3_look_98 ?_
                refine lv_iadd hx hb dX3_look_99 ?_
                refine lv_aload_n hx hb dX3_look_100 rfl (lv_at hl 2 rfl) ?_
                refine k_get (ci := 4) (T := TX3) (N := 13) (C := RX3) hx hb hts inX3 hown hK hP 0 rfl rfl 7 (by decide) fl41 rfl rfl dX3_look_101 ?_
                refine lv_iconst (v := 1) hx hb dX3_look_104 (by decide) ?_
                refine lv_iadd hx hb dX3_look_105 ?_
                refine k_nrm (y := nI (R + 1)) (nI_add R 1) ?_
                refine lv_icmp_eq (tgt := 111) hx hb dX3_look_106 (by decide) (fun c6 => ?_) (fun c6 => ?_)
                · refine lv_aload_n hx hb dX3_look_111 rfl (lv_at hl 2 rfl) ?_
                  refine k_get (ci := 4) (T := TX3) (N := 13) (C := RX3) hx hb hts inX3 hown hK hP 0 rfl rfl 1 (by decide) fl7 rfl rfl dX3_look_112 ?_
                  refine lv_iload_n hx hb dX3_look_115 rfl (lv_at hl 3 rfl) ?_
                  refine lv_iconst (v := 4) hx hb dX3_look_116 (by decide) ?_
                  refine lv_iadd hx hb dX3_look_117 ?_
                  refine k_nrm (y := nI (a + 4)) (nI_add a 4) ?_
                  refine k_ialdn (i := a + 4) hx hb hK hP 1 rfl (by omega) (by decide) dX3_look_118 ?_
                  refine k_nrm (y := nI (Db (a + 4))) (hDb (a + 4) (by omega)).1 ?_
                  have hm9 := (hDb (a + 4) (by omega)).2
                  refine lv_istore_n (lv' := [(3, .int (nI (Db (a + 4)))), (2, .int z), (0, .ref h), (1, .int (nI a))]) hx hb dX3_look_119 rfl hl (by decide) rfl (fun ls hl => ?_)
                  refine lv_iload_n hx hb dX3_look_120 rfl (lv_at hl 0 rfl) ?_
                  refine lv_bipush (v := 20) hx hb dX3_look_121 (by decide) ?_
                  refine lv_icmp_gt (tgt := 139) hx hb dX3_look_123 (by decide) (fun c7 => ?_) (fun c7 => ?_)
                  · have nc7 : 20 < (Db (a + 4)) := (nI_ltI (a := 20) (b := Db (a + 4)) (by omega) (by omega)).mp c7
                    refine lv_iconst (v := 4) hx hb dX3_look_139 (by decide) ?_
                    exact k_iretP (ret := none) hx hb hr hlocks (by simp only [lkN, if_pos cz, if_pos c3, if_pos nc4, if_neg c5, if_pos c6, if_pos nc7]) rfl dX3_look_140
                  · have nc7 : ¬ 20 < (Db (a + 4)) := fun h9 => c7 ((nI_ltI (a := 20) (b := Db (a + 4)) (by omega) (by omega)).mpr h9)
                    refine lv_iload_n hx hb dX3_look_126 rfl (lv_at hl 3 rfl) ?_
                    refine lv_bipush (v := 9) hx hb dX3_look_127 (by decide) ?_
                    refine lv_iadd hx hb dX3_look_129 ?_
                    refine k_nrm (y := nI (a + 9)) (nI_add a 9) ?_
                    refine lv_iload_n hx hb dX3_look_130 rfl (lv_at hl 0 rfl) ?_
                    refine lv_iadd hx hb dX3_look_131 ?_
                    refine k_nrm (y := nI ((a + 9) + (Db (a + 4)))) (nI_add (a + 9) (Db (a + 4))) ?_
                    refine lv_aload_n hx hb dX3_look_132 rfl (lv_at hl 2 rfl) ?_
                    refine k_get (ci := 4) (T := TX3) (N := 13) (C := RX3) hx hb hts inX3 hown hK hP 0 rfl rfl 0 (by decide) fl29 rfl rfl dX3_look_133 ?_
                    refine lv_icmp_le (tgt := 141) hx hb dX3_look_136 (by decide) (fun c8 => ?_) (fun c8 => ?_)
                    · have nc8 : ((a + 9) + (Db (a + 4))) ≤ (32 * n) := (nI_leI (a := (a + 9) + (Db (a + 4))) (b := 32 * n) (by omega) (by omega)).mp c8
                      refine lv_aload_n hx hb dX3_look_141 rfl (lv_at hl 2 rfl) ?_
                      refine k_get (ci := 4) (T := TX3) (N := 13) (C := RX3) hx hb hts inX3 hown hK hP 0 rfl rfl 1 (by decide) fl7 rfl rfl dX3_look_142 ?_
                      refine lv_iload_n hx hb dX3_look_145 rfl (lv_at hl 3 rfl) ?_
                      refine lv_iconst (v := 1) hx hb dX3_look_146 (by decide) ?_
                      refine lv_iadd hx hb dX3_look_147 ?_
                      refine k_nrm (y := nI (a + 1)) (nI_add a 1) ?_
                      refine lv_iload_n hx hb dX3_look_148 rfl (lv_at hl 3 rfl) ?_
                      refine lv_iconst (v := 5) hx hb dX3_look_149 (by decide) ?_
                      refine lv_iadd hx hb dX3_look_150 ?_
                      refine k_nrm (y := nI (a + 5)) (nI_add a 5) ?_
                      refine lv_iload_n hx hb dX3_look_151 rfl (lv_at hl 0 rfl) ?_
                      refine lv_iadd hx hb dX3_look_152 ?_
                      refine k_nrm (y := nI ((a + 5) + (Db (a + 4)))) (nI_add (a + 5) (Db (a + 4))) ?_
                      refine k_afP (va_runS (rest := []) ⟨hx, hb, hml, hown, hts⟩ (m_X3_sumOf l dC dI cI cJ d1 2048 fD (a + 1) ((a + 5) + (Db (a + 4))) (by decide) (by omega) (by omega)) (cwS 3 hts gX3_look_X3_sumOf rfl rfl rfl hds_X3_sumOf ⟨Nat.le_of_ble_eq_true rfl, Nat.le_of_ble_eq_true rfl⟩) (k_preSP hK hP [1] rfl) rfl rfl hl.1 rfl (lv_room (Nat.le_of_ble_eq_true rfl)) dX3_look_153 ⟨Nat.le_of_ble_eq_true rfl, Nat.le_of_ble_eq_true rfl⟩) ?_
                      refine lv_istore (lv' := [(4, .int (sN fD (a + 1) (((a + 5) + (Db (a + 4))) - (a + 1)))), (3, .int (nI (Db (a + 4)))), (2, .int z), (0, .ref h), (1, .int (nI a))]) hx hb dX3_look_156 hl (by decide) rfl (fun ls hl => ?_)
                      refine lv_iconst (v := 0) hx hb dX3_look_158 (by decide) ?_
                      refine lv_istore (lv' := [(5, .int 0), (4, .int (sN fD (a + 1) (((a + 5) + (Db (a + 4))) - (a + 1)))), (3, .int (nI (Db (a + 4)))), (2, .int z), (0, .ref h), (1, .int (nI a))]) hx hb dX3_look_159 hl (by decide) rfl (fun ls hl => ?_)
                      have loop161 : ∀ (n9 : Nat) (k2 : Nat) (ls : Array Slot), (eqN fD ((a + 5) + Db (a + 4)) (sN fD (a + 1) ((a + 5) + Db (a + 4) - (a + 1))) k2 (4 - k2) = eqN fD ((a + 5) + Db (a + 4)) (sN fD (a + 1) ((a + 5) + Db (a + 4) - (a + 1))) 0 4) → (k2 ≤ 4) → 4 - k2 < n9 → lv_has ls 6 [(5, .int (nI k2)), (4, .int (sN fD (a + 1) ((a + 5) + Db (a + 4) - (a + 1)))), (3, .int (nI (Db (a + 4)))), (0, .ref h), (1, .int (nI a))] → W p l e (headSpec wsX3_look ({ frames := 3, cells := 0, slots := 0, locals := 68 })).room s m ([.ref h, .int (nI a)] : List Value).toArray below meth c s.heap [] 0 0 (MQ below (vp_Si (fun x => x = lkN n fD fI Db Bg R a)) ([.ref h, .int (nI a)] : List Value).toArray s 0 0 (fun _ => False)) (F0 m 161 ls []) := by
                        intro n9
                        induction n9 with
                        | zero => intro k2 ls hi hk4 hm; exact absurd hm (Nat.not_lt_zero _)
                        | succ n9 ih161 =>
                          intro k2 ls hi hk4 hm161 hl
                          refine lv_iload hx hb dX3_look_161 (lv_at hl 0 rfl) ?_
                          refine lv_iconst (v := 4) hx hb dX3_look_163 (by decide) ?_
                          refine lv_icmp_ge (tgt := 206) hx hb dX3_look_164 (by decide) (fun c9 => ?_) (fun c9 => ?_)
                          · have nc9 : 4 ≤ k2 := (nI_leI (a := 4) (b := k2) (by omega) (by omega)).mp c9
                            have hE : eqN fD ((a + 5) + Db (a + 4)) (sN fD (a + 1) ((a + 5) + Db (a + 4) - (a + 1))) 0 4 = true := by rw [← hi, show 4 - k2 = 0 by omega]; rfl
                            refine lv_aload_n hx hb dX3_look_206 rfl (lv_at hl 3 rfl) ?_
                            refine k_get (ci := 4) (T := TX3) (N := 13) (C := RX3) hx hb hts inX3 hown hK hP 0 rfl rfl 1 (by decide) fl7 rfl rfl dX3_look_207 ?_
                            refine lv_iload_n hx hb dX3_look_210 rfl (lv_at hl 4 rfl) ?_
                            refine lv_iconst (v := 1) hx hb dX3_look_211 (by decide) ?_
                            refine lv_iadd hx hb dX3_look_212 ?_
                            refine k_nrm (y := nI (a + 1)) (nI_add a 1) ?_
                            refine k_ialdn (i := a + 1) hx hb hK hP 1 rfl (by omega) (by decide) dX3_look_213 ?_
                            refine lv_iconst (v := 5) hx hb dX3_look_214 (by decide) ?_
                            refine lv_icmp_ne (tgt := 234) hx hb dX3_look_215 (by decide) (fun c10 => ?_) (fun c10 => ?_)
                            · refine lv_iconst (v := 0) hx hb dX3_look_234 (by decide) ?_
                              exact k_iretP (ret := none) hx hb hr hlocks (by simp only [lkN, if_pos cz, if_pos c3, if_pos nc4, if_neg c5, if_pos c6, if_neg nc7, if_pos nc8, if_pos hE, if_neg c10]) rfl dX3_look_235
                            · refine lv_aload_n hx hb dX3_look_218 rfl (lv_at hl 3 rfl) ?_
                              refine lv_iload_n hx hb dX3_look_219 rfl (lv_at hl 4 rfl) ?_
                              refine lv_iconst (v := 5) hx hb dX3_look_220 (by decide) ?_
                              refine lv_iadd hx hb dX3_look_221 ?_
                              refine k_nrm (y := nI (a + 5)) (nI_add a 5) ?_
                              refine lv_iload_n hx hb dX3_look_222 rfl (lv_at hl 2 rfl) ?_
                              refine k_afP (va_runV (rest := []) ⟨hx, hb, hml, hown, hts⟩ (m_X3_countsRight l dC dI cI cJ h d1 s1 i1 b1 t1 fD fS fI fB fT n R S T bk2 up2 wr th Bg (a + 5) (Db (a + 4)) (by omega) (by omega) hB (by omega) (by omega)) (cwV 2 hts gX3_look_X3_countsRight rfl rfl rfl hdv_X3_countsRight ⟨Nat.le_of_ble_eq_true rfl, Nat.le_of_ble_eq_true rfl⟩) (k_preVP hK hP [0, 1, 2, 3, 4, 5] rfl 0 rfl rfl) rfl rfl hl.1 rfl (lv_room (Nat.le_of_ble_eq_true rfl)) dX3_look_223 ⟨Nat.le_of_ble_eq_true rfl, Nat.le_of_ble_eq_true rfl⟩) ?_
                              refine lv_if_ne (tgt := 234) hx hb dX3_look_226 (by decide) (fun c11 => ?_) (fun c11 => ?_)
                              · refine lv_iconst (v := 0) hx hb dX3_look_234 (by decide) ?_
                                exact k_iretP (ret := none) hx hb hr hlocks (by simp only [lkN, if_pos cz, if_pos c3, if_pos nc4, if_neg c5, if_pos c6, if_neg nc7, if_pos nc8, if_pos hE, if_pos c10, if_neg c11]) rfl dX3_look_235
                              · refine lv_bipush (v := 6) hx hb dX3_look_229 (by decide) ?_
                                refine lv_goto (tgt := 235) hx hb dX3_look_231 (by decide) ?_
                                exact k_iretP (ret := none) hx hb hr hlocks (by simp only [lkN, if_pos cz, if_pos c3, if_pos nc4, if_neg c5, if_pos c6, if_neg nc7, if_pos nc8, if_pos hE, if_pos c10, if_pos c11]) rfl dX3_look_235
                          · have nc9 : ¬ 4 ≤ k2 := fun h9 => c9 ((nI_leI (a := 4) (b := k2) (by omega) (by omega)).mpr h9)
                            refine lv_aload_n hx hb dX3_look_167 rfl (lv_at hl 3 rfl) ?_
                            refine k_get (ci := 4) (T := TX3) (N := 13) (C := RX3) hx hb hts inX3 hown hK hP 0 rfl rfl 1 (by decide) fl7 rfl rfl dX3_look_168 ?_
                            refine lv_iload_n hx hb dX3_look_171 rfl (lv_at hl 4 rfl) ?_
                            refine lv_iconst (v := 5) hx hb dX3_look_172 (by decide) ?_
                            refine lv_iadd hx hb dX3_look_173 ?_
                            refine k_nrm (y := nI (a + 5)) (nI_add a 5) ?_
                            refine lv_iload_n hx hb dX3_look_174 rfl (lv_at hl 2 rfl) ?_
                            refine lv_iadd hx hb dX3_look_175 ?_
                            refine k_nrm (y := nI ((a + 5) + (Db (a + 4)))) (nI_add (a + 5) (Db (a + 4))) ?_
                            refine lv_iload hx hb dX3_look_176 (lv_at hl 0 rfl) ?_
                            refine lv_iadd hx hb dX3_look_178 ?_
                            refine k_nrm (y := nI (((a + 5) + (Db (a + 4))) + k2)) (nI_add ((a + 5) + (Db (a + 4))) k2) ?_
                            refine k_ialdn (i := ((a + 5) + (Db (a + 4))) + k2) hx hb hK hP 1 rfl (by omega) (by decide) dX3_look_179 ?_
                            refine lv_iload hx hb dX3_look_180 (lv_at hl 1 rfl) ?_
                            refine lv_bipush (v := 24) hx hb dX3_look_182 (by decide) ?_
                            refine lv_bipush (v := 8) hx hb dX3_look_184 (by decide) ?_
                            refine lv_iload hx hb dX3_look_186 (lv_at hl 0 rfl) ?_
                            refine lv_imul hx hb dX3_look_188 ?_
                            refine k_nrm (y := nI (8 * k2)) (pk_mul 8 k2) ?_
                            refine lv_isub hx hb dX3_look_189 ?_
                            refine lv_iushr (v := ushr (sN fD (a + 1) ((a + 5) + Db (a + 4) - (a + 1))) (24 - (nI (8 * k2)))) hx hb dX3_look_190 rfl ?_
                            refine lv_sipush (v := 255) hx hb dX3_look_191 (by decide) ?_
                            refine lv_iand hx hb dX3_look_194 ?_
                            refine lv_icmp_eq (tgt := 200) hx hb dX3_look_195 (by decide) (fun c12 => ?_) (fun c12 => ?_)
                            · refine lv_iinc (v := nI (k2 + 1)) (lv' := [(5, .int (nI (k2 + 1))), (4, .int (sN fD (a + 1) ((a + 5) + Db (a + 4) - (a + 1)))), (3, .int (nI (Db (a + 4)))), (0, .ref h), (1, .int (nI a))]) hx hb dX3_look_200 hl (k := 0) rfl (nI_1 k2) (by decide) rfl (fun ls hl => ?_)
                              refine lv_goto (tgt := 161) hx hb dX3_look_203 (by decide) ?_
                              exact ih161 (k2 + 1) ls (by rw [← hi, show 4 - k2 = (4 - (k2 + 1)) + 1 by omega, eqN, if_pos c12]) (by omega) (by omega) (lv_sub hl [0, 1, 2, 3, 4] rfl)
                            · have hE : ¬ eqN fD ((a + 5) + Db (a + 4)) (sN fD (a + 1) ((a + 5) + Db (a + 4) - (a + 1))) 0 4 = true := by rw [← hi, show 4 - k2 = (3 - k2) + 1 by omega, eqN, if_neg c12]; decide
                              refine lv_iconst (v := 5) hx hb dX3_look_198 (by decide) ?_
                              exact k_iretP (ret := none) hx hb hr hlocks (by simp only [lkN, if_pos cz, if_pos c3, if_pos nc4, if_neg c5, if_pos c6, if_neg nc7, if_pos nc8, if_neg hE]) rfl dX3_look_199
                      exact loop161 _ 0 ls rfl (by decide) (Nat.lt_succ_self _) (lv_sub hl [0, 1, 2, 4, 5] rfl)
                    · have nc8 : ¬ ((a + 9) + (Db (a + 4))) ≤ (32 * n) := fun h9 => c8 ((nI_leI (a := (a + 9) + (Db (a + 4))) (b := 32 * n) (by omega) (by omega)).mpr h9)
                      refine lv_iconst (v := 4) hx hb dX3_look_139 (by decide) ?_
                      exact k_iretP (ret := none) hx hb hr hlocks (by simp only [lkN, if_pos cz, if_pos c3, if_pos nc4, if_neg c5, if_pos c6, if_neg nc7, if_neg nc8]) rfl dX3_look_140
                · refine lv_iconst (v := 3) hx hb dX3_look_109 (by decide) ?_
                  exact k_iretP (ret := none) hx hb hr hlocks (by simp only [lkN, if_pos cz, if_pos c3, if_pos nc4, if_neg c5, if_neg c6]) rfl dX3_look_110
              · refine lv_iconst (v := 2) hx hb dX3_look_77 (by decide) ?_
                exact k_iretP (ret := none) hx hb hr hlocks (by simp only [lkN, if_pos cz, if_pos c3, if_pos nc4, if_pos c5]) rfl dX3_look_78
            · have nc4 : ¬ (a + 5) ≤ (32 * n) := fun h9 => c4 ((nI_leI (a := a + 5) (b := 32 * n) (by omega) (by omega)).mpr h9)
              refine lv_iconst (v := 4) hx hb dX3_look_59 (by decide) ?_
              exact k_iretP (ret := none) hx hb hr hlocks (by simp only [lkN, if_pos cz, if_pos c3, if_neg nc4]) rfl dX3_look_60
          · refine lv_iconst (v := 1) hx hb dX3_look_47 (by decide) ?_
            exact k_iretP (ret := none) hx hb hr hlocks (by simp only [lkN, if_pos cz, if_neg c3]) rfl dX3_look_48
        · have cz : ¬ zN fD a (32 * n - a) = 0 := by rw [show 32 * n - a = k - a by omega, ← hz]; exact c2
          refine lv_bipush (v := 7) hx hb dX3_look_33 (by decide) ?_
          exact k_iretP (ret := none) hx hb hr hlocks (by simp only [lkN, if_neg cz]) rfl dX3_look_35
      · have nc1 : ¬ (32 * n) ≤ k := fun h9 => c1 ((nI_leI (a := 32 * n) (b := k) (by omega) (by omega)).mpr h9)
        refine lv_aload_n hx hb dX3_look_12 rfl (lv_at hl 2 rfl) ?_
        refine k_get (ci := 4) (T := TX3) (N := 13) (C := RX3) hx hb hts inX3 hown hK hP 0 rfl rfl 1 (by decide) fl7 rfl rfl dX3_look_13 ?_
        refine lv_iload_n hx hb dX3_look_16 rfl (lv_at hl 0 rfl) ?_
        refine k_ialdn (i := k) hx hb hK hP 1 rfl (by omega) (by decide) dX3_look_17 ?_
        refine lv_if_eq (tgt := 23) hx hb dX3_look_18 (by decide) (fun c13 => ?_) (fun c13 => ?_)
        · refine lv_iinc (v := nI (k + 1)) (lv' := [(3, .int (nI (k + 1))), (2, .int z), (0, .ref h), (1, .int (nI a))]) hx hb dX3_look_23 hl (k := 0) rfl (nI_1 k) (by decide) rfl (fun ls hl => ?_)
          refine lv_goto (tgt := 4) hx hb dX3_look_26 (by decide) ?_
          exact ih (k + 1) z ls (by rw [show k + 1 - a = (k - a) + 1 by omega, zN, show a + (k - a) = k by omega, if_pos c13] <;> exact hz) (by omega) (by omega) (by omega) (lv_sub hl [0, 1, 2, 3] rfl)
        · refine lv_iconst (v := 0) hx hb dX3_look_21 (by decide) ?_
          refine lv_istore_n (lv' := [(2, .int 0), (3, .int (nI k)), (0, .ref h), (1, .int (nI a))]) hx hb dX3_look_22 rfl hl (by decide) rfl (fun ls hl => ?_)
          refine lv_iinc (v := nI (k + 1)) (lv' := [(3, .int (nI (k + 1))), (2, .int 0), (0, .ref h), (1, .int (nI a))]) hx hb dX3_look_23 hl (k := 1) rfl (nI_1 k) (by decide) rfl (fun ls hl => ?_)
          refine lv_goto (tgt := 4) hx hb dX3_look_26 (by decide) ?_
          exact ih (k + 1) 0 ls (by rw [show k + 1 - a = (k - a) + 1 by omega, zN, show a + (k - a) = k by omega, if_neg c13] <;> exact hz) (by omega) (by omega) (by omega) (lv_sub hl [0, 1, 2, 3] rfl)
  exact loop4 _ a 1 ls (by rw [Nat.sub_self]; rfl) (Nat.le_refl _) ha (Nat.lt_succ_self _) (lv_sub hl [0, 1, 2, 3] rfl)
set_option maxHeartbeats 4000000 in
set_option maxRecDepth 100000 in
theorem m_X3_read (l : Launch) (dC : Nat → ClassId) (dI : Nat → Nat → Nat) (cI cJ : ClassId) (h : Nat) (d1 : Nat) (s1 : Nat) (i1 : Nat) (b1 : Nat) (t1 : Nat) (fD : Nat → Int32) (fS : Nat → Int32) (fI : Nat → Int32) (fB : Nat → Int32) (fT : Nat → Int32) (n : Nat) (R : Nat) (S : Nat) (T : Nat) (bk2 : Int32) (up2 : Int32) (wr : Int32) (th : Int32) (Bg : Nat → Nat) (Db : Nat → Nat) (hn : n ≤ 64) (hDb : ∀ j, j < 2048 → fD j = nI (Db j) ∧ Db j ≤ 255) (hB0 : fB 0 = nI (Bg 0)) (hB00 : Bg 0 = 0) : cW l yX3_read wsX3_read ({ frames := 4, cells := 0, slots := 0, locals := 93 }) dC dI cI cJ [(h, .inr (4, [.int (nI (32 * n)), .ref d1, .ref s1, .int bk2, .int up2, .ref i1, .ref b1, .int (nI R), .int (nI S), .int wr, .int th, .ref t1, .int (nI T)])), (d1, .inl (cI, 2048, .inl fD)), (s1, .inl (cI, 2048, .inl fS)), (i1, .inl (cI, 2080, .inl fI)), (b1, .inl (cI, 240, .inl fB)), (t1, .inl (cI, 20, .inl fT))] [(h, .inr (4, [.int (nI (32 * n)), .ref d1, .ref s1, .int bk2, .int 1, .ref i1, .ref b1, .int (nI ((rdN n fD Db (32 * n + 1) (fI, fB, Bg, 0, 0)).1.2.2.2.1)), .int (nI ((rdN n fD Db (32 * n + 1) (fI, fB, Bg, 0, 0)).1.2.2.2.1)), .int (if (rdN n fD Db (32 * n + 1) (fI, fB, Bg, 0, 0)).2 = 7 then 0 else (rdN n fD Db (32 * n + 1) (fI, fB, Bg, 0, 0)).2), .int th, .ref t1, .int 0])), (d1, .inl (cI, 2048, .inl fD)), (s1, .inl (cI, 2048, .inl fS)), (i1, .inl (cI, 2080, .inl ((rdN n fD Db (32 * n + 1) (fI, fB, Bg, 0, 0)).1.1))), (b1, .inl (cI, 240, .inl ((rdN n fD Db (32 * n + 1) (fI, fB, Bg, 0, 0)).1.2.1))), (t1, .inl (cI, 20, .inl fT))] [h, d1, s1, i1, b1, t1] [.ref h] none := by
  refine Met.ofW (cc := cX3_read) (maxL := 5) (ret := none) (by decide) rfl ?_
  intro p e s m args below meth c s₁ B hml hv
  obtain ⟨rfl, hP, hK, hD0⟩ := hv
  have hx := B.exec
  have hb := B.bytes
  have hr := B.returns
  have hts := atoms_spec (ws := wsX3_read) B.pre
  have hown : s.vm.findClass RX3 = some m.cls := findClass_of_methodNamed B.named
  have hlocks := B.notSynchronized
  have inX3 : ∀ w ∈ wsX30, w ∈ wsX3_read := fun w h => (List.mem_cons_of_mem _ (List.mem_append_right _ h))
  have fl7 := hts (.fieldLink RX3 7 "StockLogModel" "disk" "[I") (by decide +kernel)
  have fl16 := hts (.fieldLink RX3 16 "StockLogModel" "up" "Z") (by decide +kernel)
  have fl20 := hts (.fieldLink RX3 20 "StockLogModel" "image" "[I") (by decide +kernel)
  have fl23 := hts (.fieldLink RX3 23 "StockLogModel" "begin" "[I") (by decide +kernel)
  have fl41 := hts (.fieldLink RX3 41 "StockLogModel" "rows" "I") (by decide +kernel)
  have fl52 := hts (.fieldLink RX3 52 "StockLogModel" "toldMany" "I") (by decide +kernel)
  have fl70 := hts (.fieldLink RX3 70 "StockLogModel" "synced" "I") (by decide +kernel)
  have fl84 := hts (.fieldLink RX3 84 "StockLogModel" "wrong" "I") (by decide +kernel)
  have hD : va_D (mA [h, d1, s1, i1, b1, t1]) [(h, .inr (4, [.int (nI (32 * n)), .ref d1, .ref s1, .int bk2, .int up2, .ref i1, .ref b1, .int (nI R), .int (nI S), .int wr, .int th, .ref t1, .int (nI T)])), (d1, .inl (cI, 2048, .inl fD)), (s1, .inl (cI, 2048, .inl fS)), (i1, .inl (cI, 2080, .inl fI)), (b1, .inl (cI, 240, .inl fB)), (t1, .inl (cI, 20, .inl fT))] := k_Dw hD0 rfl
  have hS : va_S (mA [h, d1, s1, i1, b1, t1]) s.heap s.heap [] := va_S.rf
  have hl := lv_entry ([.ref h]) (n := 5) (Nat.le_of_ble_eq_true rfl)
  rw [lg_entry_eq]
  generalize (lg_sl ([.ref h]) ++ List.replicate (5 - (lg_sl ([.ref h])).length) Slot.unset).toArray = ls at hl ⊢
  have hl : lv_has ls 5 [(0, .ref h)] := hl
  refine lv_aload_n hx hb dX3_read_0 rfl (lv_at hl 0 rfl) ?_
  refine lv_iconst (v := 0) hx hb dX3_read_1 (by decide) ?_
  refine k_putf (ws' := [(h, .inr (4, [.int (nI (32 * n)), .ref d1, .ref s1, .int bk2, .int up2, .ref i1, .ref b1, .int 0, .int (nI S), .int wr, .int th, .ref t1, .int (nI T)])), (d1, .inl (cI, 2048, .inl fD)), (s1, .inl (cI, 2048, .inl fS)), (i1, .inl (cI, 2080, .inl fI)), (b1, .inl (cI, 240, .inl fB)), (t1, .inl (cI, 20, .inl fT))]) (ci := 4) (T := TX3) (N := 13) (C := RX3) (ty := .int) hx hb hts inX3 tyX3 tyX3_ok nmX3 hown hK hP hD hS 0 rfl rfl 7 (by decide) fl41 rfl rfl rfl rfl rfl (Nat.le_of_ble_eq_true rfl) dX3_read_2 rfl (fun H locs hP hD hS => ?_)
  refine lv_aload_n hx hb dX3_read_5 rfl (lv_at hl 0 rfl) ?_
  refine lv_iconst (v := 0) hx hb dX3_read_6 (by decide) ?_
  refine k_putf (ws' := [(h, .inr (4, [.int (nI (32 * n)), .ref d1, .ref s1, .int bk2, .int up2, .ref i1, .ref b1, .int 0, .int (nI S), .int wr, .int th, .ref t1, .int 0])), (d1, .inl (cI, 2048, .inl fD)), (s1, .inl (cI, 2048, .inl fS)), (i1, .inl (cI, 2080, .inl fI)), (b1, .inl (cI, 240, .inl fB)), (t1, .inl (cI, 20, .inl fT))]) (ci := 4) (T := TX3) (N := 13) (C := RX3) (ty := .int) hx hb hts inX3 tyX3 tyX3_ok nmX3 hown hK hP hD hS 0 rfl rfl 12 (by decide) fl52 rfl rfl rfl rfl rfl (Nat.le_of_ble_eq_true rfl) dX3_read_7 rfl (fun H locs hP hD hS => ?_)
  refine lv_aload_n hx hb dX3_read_10 rfl (lv_at hl 0 rfl) ?_
  refine lv_iconst (v := 1) hx hb dX3_read_11 (by decide) ?_
  refine k_putf (ws' := [(h, .inr (4, [.int (nI (32 * n)), .ref d1, .ref s1, .int bk2, .int 1, .ref i1, .ref b1, .int 0, .int (nI S), .int wr, .int th, .ref t1, .int 0])), (d1, .inl (cI, 2048, .inl fD)), (s1, .inl (cI, 2048, .inl fS)), (i1, .inl (cI, 2080, .inl fI)), (b1, .inl (cI, 240, .inl fB)), (t1, .inl (cI, 20, .inl fT))]) (ci := 4) (T := TX3) (N := 13) (C := RX3) (ty := .boolean) hx hb hts inX3 tyX3 tyX3_ok nmX3 hown hK hP hD hS 0 rfl rfl 4 (by decide) fl16 rfl rfl rfl rfl rfl (Nat.le_of_ble_eq_true rfl) dX3_read_12 rfl (fun H locs hP hD hS => ?_)
  refine lv_iconst (v := 0) hx hb dX3_read_15 (by decide) ?_
  refine lv_istore_n (lv' := [(1, .int 0), (0, .ref h)]) hx hb dX3_read_16 rfl hl (by decide) rfl (fun ls hl => ?_)
  refine lv_aload_n hx hb dX3_read_17 rfl (lv_at hl 1 rfl) ?_
  refine lv_iconst (v := 0) hx hb dX3_read_18 (by decide) ?_
  refine k_afP (va_runV (rest := []) ⟨hx, hb, hml, hown, hts⟩ (m_X3_look l dC dI cI cJ h d1 s1 i1 b1 t1 fD fS fI fB fT n 0 S 0 bk2 1 wr th Bg Db 0 (by omega) (by omega) (fun j hj => absurd hj (Nat.not_lt_zero j)) hDb (by omega)) (cwV 1 hts gX3_read_X3_look rfl rfl rfl hdv_X3_look ⟨Nat.le_of_ble_eq_true rfl, Nat.le_of_ble_eq_true rfl⟩) (k_preVP hK hP [0, 1, 2, 3, 4, 5] rfl 0 rfl rfl) rfl rfl hl.1 rfl (lv_room (Nat.le_of_ble_eq_true rfl)) dX3_read_19 ⟨Nat.le_of_ble_eq_true rfl, Nat.le_of_ble_eq_true rfl⟩) ?_
  refine lv_istore_n (lv' := [(2, .int (lkN n fD fI Db Bg 0 0)), (1, .int 0), (0, .ref h)]) hx hb dX3_read_22 rfl hl (by decide) rfl (fun ls hl => ?_)
  have loop23 : ∀ (n9 : Nat) (x : Nat → Int32) (y : Nat → Int32) (Bx : Nat → Nat) (r : Nat) (aa : Nat) (w : Int32) (f : Nat) (H : Heap) (locs : List Loc) (ls : Array Slot), (w = lkN n fD x Db Bx r aa) → (rdN n fD Db (f + 1) (x, y, Bx, r, aa) = rdN n fD Db (32 * n + 1) (fI, fB, Bg, 0, 0)) → (∀ j, j ≤ r → y j = nI (Bx j) ∧ Bx j ≤ 2048) → (aa ≤ 32 * n) → (9 * r ≤ aa) → (32 * n - aa ≤ f) → 32 * n - aa < n9 → va_P (dC, dI) vwCl [(h, .inr (4, [.int (nI (32 * n)), .ref d1, .ref s1, .int bk2, .int 1, .ref i1, .ref b1, .int (nI r), .int (nI S), .int wr, .int th, .ref t1, .int 0])), (d1, .inl (cI, 2048, .inl fD)), (s1, .inl (cI, 2048, .inl fS)), (i1, .inl (cI, 2080, .inl x)), (b1, .inl (cI, 240, .inl y)), (t1, .inl (cI, 20, .inl fT))] H → va_D (mA [h, d1, s1, i1, b1, t1]) [(h, .inr (4, [.int (nI (32 * n)), .ref d1, .ref s1, .int bk2, .int 1, .ref i1, .ref b1, .int (nI r), .int (nI S), .int wr, .int th, .ref t1, .int 0])), (d1, .inl (cI, 2048, .inl fD)), (s1, .inl (cI, 2048, .inl fS)), (i1, .inl (cI, 2080, .inl x)), (b1, .inl (cI, 240, .inl y)), (t1, .inl (cI, 20, .inl fT))] → va_S (mA [h, d1, s1, i1, b1, t1]) s.heap H locs → lv_has ls 5 [(2, .int w), (1, .int (nI aa)), (0, .ref h)] → W p l e (headSpec wsX3_read ({ frames := 4, cells := 0, slots := 0, locals := 93 })).room s m ([.ref h] : List Value).toArray below meth c H locs 0 0 (MQ below (mQ dC dI [(h, .inr (4, [.int (nI (32 * n)), .ref d1, .ref s1, .int bk2, .int 1, .ref i1, .ref b1, .int (nI ((rdN n fD Db (32 * n + 1) (fI, fB, Bg, 0, 0)).1.2.2.2.1)), .int (nI ((rdN n fD Db (32 * n + 1) (fI, fB, Bg, 0, 0)).1.2.2.2.1)), .int (if (rdN n fD Db (32 * n + 1) (fI, fB, Bg, 0, 0)).2 = 7 then 0 else (rdN n fD Db (32 * n + 1) (fI, fB, Bg, 0, 0)).2), .int th, .ref t1, .int 0])), (d1, .inl (cI, 2048, .inl fD)), (s1, .inl (cI, 2048, .inl fS)), (i1, .inl (cI, 2080, .inl ((rdN n fD Db (32 * n + 1) (fI, fB, Bg, 0, 0)).1.1))), (b1, .inl (cI, 240, .inl ((rdN n fD Db (32 * n + 1) (fI, fB, Bg, 0, 0)).1.2.1))), (t1, .inl (cI, 20, .inl fT))] [h, d1, s1, i1, b1, t1] none) ([.ref h] : List Value).toArray s 0 0 (mA [h, d1, s1, i1, b1, t1])) (F0 m 23 ls []) := by
    intro n9
    induction n9 with
    | zero => intro x y Bx r aa w f H locs ls hw hi hBx haa hr9 hf hm; exact absurd hm (Nat.not_lt_zero _)
    | succ n9 ih =>
      intro x y Bx r aa w f H locs ls hw hi hBx haa hr9 hf hm hP hD hS hl
      refine lv_iload_n hx hb dX3_read_23 rfl (lv_at hl 0 rfl) ?_
      refine lv_if_ne (tgt := 101) hx hb dX3_read_24 (by decide) (fun c1 => ?_) (fun c1 => ?_)
      · refine lv_aload_n hx hb dX3_read_101 rfl (lv_at hl 2 rfl) ?_
        refine lv_iload_n hx hb dX3_read_102 rfl (lv_at hl 0 rfl) ?_
        refine lv_bipush (v := 7) hx hb dX3_read_103 (by decide) ?_
        refine lv_icmp_ne (tgt := 112) hx hb dX3_read_105 (by decide) (fun c2 => ?_) (fun c2 => ?_)
        · refine lv_iload_n hx hb dX3_read_112 rfl (lv_at hl 0 rfl) ?_
          refine k_putf (ws' := [(h, .inr (4, [.int (nI (32 * n)), .ref d1, .ref s1, .int bk2, .int 1, .ref i1, .ref b1, .int (nI r), .int (nI S), .int w, .int th, .ref t1, .int 0])), (d1, .inl (cI, 2048, .inl fD)), (s1, .inl (cI, 2048, .inl fS)), (i1, .inl (cI, 2080, .inl x)), (b1, .inl (cI, 240, .inl y)), (t1, .inl (cI, 20, .inl fT))]) (ci := 4) (T := TX3) (N := 13) (C := RX3) (ty := .int) hx hb hts inX3 tyX3 tyX3_ok nmX3 hown hK hP hD hS 0 rfl rfl 9 (by decide) fl84 rfl rfl rfl rfl rfl (Nat.le_of_ble_eq_true rfl) dX3_read_113 rfl (fun H locs hP hD hS => ?_)
          refine lv_aload_n hx hb dX3_read_116 rfl (lv_at hl 2 rfl) ?_
          refine lv_aload_n hx hb dX3_read_117 rfl (lv_at hl 2 rfl) ?_
          refine k_get (ci := 4) (T := TX3) (N := 13) (C := RX3) hx hb hts inX3 hown hK hP 0 rfl rfl 7 (by decide) fl41 rfl rfl dX3_read_118 ?_
          refine k_putf (ws' := [(h, .inr (4, [.int (nI (32 * n)), .ref d1, .ref s1, .int bk2, .int 1, .ref i1, .ref b1, .int (nI r), .int (nI r), .int w, .int th, .ref t1, .int 0])), (d1, .inl (cI, 2048, .inl fD)), (s1, .inl (cI, 2048, .inl fS)), (i1, .inl (cI, 2080, .inl x)), (b1, .inl (cI, 240, .inl y)), (t1, .inl (cI, 20, .inl fT))]) (ci := 4) (T := TX3) (N := 13) (C := RX3) (ty := .int) hx hb hts inX3 tyX3 tyX3_ok nmX3 hown hK hP hD hS 0 rfl rfl 8 (by decide) fl70 rfl rfl rfl rfl rfl (Nat.le_of_ble_eq_true rfl) dX3_read_121 rfl (fun H locs hP hD hS => ?_)
          exact k_vretW hx hb hr hlocks hP hS (by have hR : ((x, y, Bx, r, aa), w) = rdN n fD Db (32 * n + 1) (fI, fB, Bg, 0, 0) := (by rw [← hi, rdN, if_neg (fun q => c1 (hw.trans q))]; rw [hw]); rw [← hR]; simp only [if_neg c2]) dX3_read_124
        · refine lv_iconst (v := 0) hx hb dX3_read_108 (by decide) ?_
          refine lv_goto (tgt := 113) hx hb dX3_read_109 (by decide) ?_
          refine k_putf (ws' := [(h, .inr (4, [.int (nI (32 * n)), .ref d1, .ref s1, .int bk2, .int 1, .ref i1, .ref b1, .int (nI r), .int (nI S), .int 0, .int th, .ref t1, .int 0])), (d1, .inl (cI, 2048, .inl fD)), (s1, .inl (cI, 2048, .inl fS)), (i1, .inl (cI, 2080, .inl x)), (b1, .inl (cI, 240, .inl y)), (t1, .inl (cI, 20, .inl fT))]) (ci := 4) (T := TX3) (N := 13) (C := RX3) (ty := .int) hx hb hts inX3 tyX3 tyX3_ok nmX3 hown hK hP hD hS 0 rfl rfl 9 (by decide) fl84 rfl rfl rfl rfl rfl (Nat.le_of_ble_eq_true rfl) dX3_read_113 rfl (fun H locs hP hD hS => ?_)
          refine lv_aload_n hx hb dX3_read_116 rfl (lv_at hl 2 rfl) ?_
          refine lv_aload_n hx hb dX3_read_117 rfl (lv_at hl 2 rfl) ?_
          refine k_get (ci := 4) (T := TX3) (N := 13) (C := RX3) hx hb hts inX3 hown hK hP 0 rfl rfl 7 (by decide) fl41 rfl rfl dX3_read_118 ?_
          refine k_putf (ws' := [(h, .inr (4, [.int (nI (32 * n)), .ref d1, .ref s1, .int bk2, .int 1, .ref i1, .ref b1, .int (nI r), .int (nI r), .int 0, .int th, .ref t1, .int 0])), (d1, .inl (cI, 2048, .inl fD)), (s1, .inl (cI, 2048, .inl fS)), (i1, .inl (cI, 2080, .inl x)), (b1, .inl (cI, 240, .inl y)), (t1, .inl (cI, 20, .inl fT))]) (ci := 4) (T := TX3) (N := 13) (C := RX3) (ty := .int) hx hb hts inX3 tyX3 tyX3_ok nmX3 hown hK hP hD hS 0 rfl rfl 8 (by decide) fl70 rfl rfl rfl rfl rfl (Nat.le_of_ble_eq_true rfl) dX3_read_121 rfl (fun H locs hP hD hS => ?_)
          exact k_vretW hx hb hr hlocks hP hS (by have hR : ((x, y, Bx, r, aa), w) = rdN n fD Db (32 * n + 1) (fI, fB, Bg, 0, 0) := (by rw [← hi, rdN, if_neg (fun q => c1 (hw.trans q))]; rw [hw]); rw [← hR]; simp only [if_pos c2]) dX3_read_124
      · have hlk := lk_fit (hw.symm.trans c1)
        refine lv_iload_n hx hb dX3_read_27 rfl (lv_at hl 1 rfl) ?_
        refine lv_bipush (v := 9) hx hb dX3_read_28 (by decide) ?_
        refine lv_iadd hx hb dX3_read_30 ?_
        refine k_nrm (y := nI (aa + 9)) (nI_add aa 9) ?_
        refine lv_aload_n hx hb dX3_read_31 rfl (lv_at hl 2 rfl) ?_
        refine k_get (ci := 4) (T := TX3) (N := 13) (C := RX3) hx hb hts inX3 hown hK hP 0 rfl rfl 1 (by decide) fl7 rfl rfl dX3_read_32 ?_
        refine lv_iload_n hx hb dX3_read_35 rfl (lv_at hl 1 rfl) ?_
        refine lv_iconst (v := 4) hx hb dX3_read_36 (by decide) ?_
        refine lv_iadd hx hb dX3_read_37 ?_
        refine k_nrm (y := nI (aa + 4)) (nI_add aa 4) ?_
        refine k_ialdn (i := aa + 4) hx hb hK hP 1 rfl (by omega) (by decide) dX3_read_38 ?_
        refine k_nrm (y := nI (Db (aa + 4))) (hDb (aa + 4) (by omega)).1 ?_
        refine lv_iadd hx hb dX3_read_39 ?_
        refine k_nrm (y := nI ((aa + 9) + (Db (aa + 4)))) (nI_add (aa + 9) (Db (aa + 4))) ?_
        refine lv_istore_n (lv' := [(3, .int (nI ((aa + 9) + (Db (aa + 4))))), (2, .int w), (1, .int (nI aa)), (0, .ref h)]) hx hb dX3_read_40 rfl hl (by decide) rfl (fun ls hl => ?_)
        refine lv_iload_n hx hb dX3_read_41 rfl (lv_at hl 2 rfl) ?_
        refine lv_istore (lv' := [(4, .int (nI aa)), (3, .int (nI ((aa + 9) + (Db (aa + 4))))), (2, .int w), (1, .int (nI aa)), (0, .ref h)]) hx hb dX3_read_42 hl (by decide) rfl (fun ls hl => ?_)
        have loop44 : ∀ (n9 : Nat) (k2 : Nat) (x2 : Nat → Int32) (H : Heap) (locs : List Loc) (ls : Array Slot), (x2 = cpN x fD aa (k2 - aa)) → (aa ≤ k2) → (k2 ≤ (aa + 9) + Db (aa + 4)) → (aa + 9) + Db (aa + 4) - k2 < n9 → va_P (dC, dI) vwCl [(h, .inr (4, [.int (nI (32 * n)), .ref d1, .ref s1, .int bk2, .int 1, .ref i1, .ref b1, .int (nI r), .int (nI S), .int wr, .int th, .ref t1, .int 0])), (d1, .inl (cI, 2048, .inl fD)), (s1, .inl (cI, 2048, .inl fS)), (i1, .inl (cI, 2080, .inl x2)), (b1, .inl (cI, 240, .inl y)), (t1, .inl (cI, 20, .inl fT))] H → va_D (mA [h, d1, s1, i1, b1, t1]) [(h, .inr (4, [.int (nI (32 * n)), .ref d1, .ref s1, .int bk2, .int 1, .ref i1, .ref b1, .int (nI r), .int (nI S), .int wr, .int th, .ref t1, .int 0])), (d1, .inl (cI, 2048, .inl fD)), (s1, .inl (cI, 2048, .inl fS)), (i1, .inl (cI, 2080, .inl x2)), (b1, .inl (cI, 240, .inl y)), (t1, .inl (cI, 20, .inl fT))] → va_S (mA [h, d1, s1, i1, b1, t1]) s.heap H locs → lv_has ls 5 [(4, .int (nI k2)), (3, .int (nI ((aa + 9) + Db (aa + 4)))), (2, .int w), (1, .int (nI aa)), (0, .ref h)] → W p l e (headSpec wsX3_read ({ frames := 4, cells := 0, slots := 0, locals := 93 })).room s m ([.ref h] : List Value).toArray below meth c H locs 0 0 (MQ below (mQ dC dI [(h, .inr (4, [.int (nI (32 * n)), .ref d1, .ref s1, .int bk2, .int 1, .ref i1, .ref b1, .int (nI ((rdN n fD Db (32 * n + 1) (fI, fB, Bg, 0, 0)).1.2.2.2.1)), .int (nI ((rdN n fD Db (32 * n + 1) (fI, fB, Bg, 0, 0)).1.2.2.2.1)), .int (if (rdN n fD Db (32 * n + 1) (fI, fB, Bg, 0, 0)).2 = 7 then 0 else (rdN n fD Db (32 * n + 1) (fI, fB, Bg, 0, 0)).2), .int th, .ref t1, .int 0])), (d1, .inl (cI, 2048, .inl fD)), (s1, .inl (cI, 2048, .inl fS)), (i1, .inl (cI, 2080, .inl ((rdN n fD Db (32 * n + 1) (fI, fB, Bg, 0, 0)).1.1))), (b1, .inl (cI, 240, .inl ((rdN n fD Db (32 * n + 1) (fI, fB, Bg, 0, 0)).1.2.1))), (t1, .inl (cI, 20, .inl fT))] [h, d1, s1, i1, b1, t1] none) ([.ref h] : List Value).toArray s 0 0 (mA [h, d1, s1, i1, b1, t1])) (F0 m 44 ls []) := by
          intro n9
          induction n9 with
          | zero => intro k2 x2 H locs ls hx2 hk1 hk2 hm; exact absurd hm (Nat.not_lt_zero _)
          | succ n9 ih44 =>
            intro k2 x2 H locs ls hx2 hk1 hk2 hm44 hP hD hS hl
            refine lv_iload hx hb dX3_read_44 (lv_at hl 0 rfl) ?_
            refine lv_iload_n hx hb dX3_read_46 rfl (lv_at hl 1 rfl) ?_
            refine lv_icmp_ge (tgt := 70) hx hb dX3_read_47 (by decide) (fun c3 => ?_) (fun c3 => ?_)
            · have nc3 : ((aa + 9) + Db (aa + 4)) ≤ k2 := (nI_leI (a := (aa + 9) + Db (aa + 4)) (b := k2) (by omega) (by omega)).mp c3
              refine lv_aload_n hx hb dX3_read_70 rfl (lv_at hl 4 rfl) ?_
              refine lv_dup hx hb dX3_read_71 rfl ?_
              refine k_get (ci := 4) (T := TX3) (N := 13) (C := RX3) hx hb hts inX3 hown hK hP 0 rfl rfl 7 (by decide) fl41 rfl rfl dX3_read_72 ?_
              refine lv_iconst (v := 1) hx hb dX3_read_75 (by decide) ?_
              refine lv_iadd hx hb dX3_read_76 ?_
              refine k_nrm (y := nI (r + 1)) (nI_add r 1) ?_
              refine k_putf (ws' := [(h, .inr (4, [.int (nI (32 * n)), .ref d1, .ref s1, .int bk2, .int 1, .ref i1, .ref b1, .int (nI (r + 1)), .int (nI S), .int wr, .int th, .ref t1, .int 0])), (d1, .inl (cI, 2048, .inl fD)), (s1, .inl (cI, 2048, .inl fS)), (i1, .inl (cI, 2080, .inl x2)), (b1, .inl (cI, 240, .inl y)), (t1, .inl (cI, 20, .inl fT))]) (ci := 4) (T := TX3) (N := 13) (C := RX3) (ty := .int) hx hb hts inX3 tyX3 tyX3_ok nmX3 hown hK hP hD hS 0 rfl rfl 7 (by decide) fl41 rfl rfl rfl rfl rfl (Nat.le_of_ble_eq_true rfl) dX3_read_77 rfl (fun H locs hP hD hS => ?_)
              refine lv_aload_n hx hb dX3_read_80 rfl (lv_at hl 4 rfl) ?_
              refine k_get (ci := 4) (T := TX3) (N := 13) (C := RX3) hx hb hts inX3 hown hK hP 0 rfl rfl 6 (by decide) fl23 rfl rfl dX3_read_81 ?_
              refine lv_aload_n hx hb dX3_read_84 rfl (lv_at hl 4 rfl) ?_
              refine k_get (ci := 4) (T := TX3) (N := 13) (C := RX3) hx hb hts inX3 hown hK hP 0 rfl rfl 7 (by decide) fl41 rfl rfl dX3_read_85 ?_
              refine lv_iload_n hx hb dX3_read_88 rfl (lv_at hl 1 rfl) ?_
              refine k_iastn (ws' := [(h, .inr (4, [.int (nI (32 * n)), .ref d1, .ref s1, .int bk2, .int 1, .ref i1, .ref b1, .int (nI (r + 1)), .int (nI S), .int wr, .int th, .ref t1, .int 0])), (d1, .inl (cI, 2048, .inl fD)), (s1, .inl (cI, 2048, .inl fS)), (i1, .inl (cI, 2080, .inl x2)), (b1, .inl (cI, 240, .inl (upd y (r + 1) (nI ((aa + 9) + Db (aa + 4)))))), (t1, .inl (cI, 20, .inl fT))]) (j := r + 1) hx hb hK hP hD hS 4 rfl rfl (by omega) (by decide) dX3_read_89 rfl (fun H locs hP hD hS => ?_)
              refine lv_iload_n hx hb dX3_read_90 rfl (lv_at hl 1 rfl) ?_
              refine lv_istore_n (lv' := [(1, .int (nI ((aa + 9) + Db (aa + 4)))), (4, .int (nI k2)), (3, .int (nI ((aa + 9) + Db (aa + 4)))), (2, .int w), (0, .ref h)]) hx hb dX3_read_91 rfl hl (by decide) rfl (fun ls hl => ?_)
              refine lv_aload_n hx hb dX3_read_92 rfl (lv_at hl 4 rfl) ?_
              refine lv_iload_n hx hb dX3_read_93 rfl (lv_at hl 0 rfl) ?_
              refine k_afP (va_runV (rest := []) ⟨hx, hb, hml, hown, hts⟩ (m_X3_look l dC dI cI cJ h d1 s1 i1 b1 t1 fD fS x2 (upd y (r + 1) (nI ((aa + 9) + Db (aa + 4)))) fT n (r + 1) S 0 bk2 1 wr th (updN Bx (r + 1) ((aa + 9) + Db (aa + 4))) Db ((aa + 9) + Db (aa + 4)) (by omega) (by omega) (fun j hj => by have h1 := hBx j (by omega); have h2 : ¬ j = r + 1 := (by omega); rw [pk_un h2, uN_n h2]; exact ⟨h1.1, by omega⟩) hDb (by omega)) (cwV 1 hts gX3_read_X3_look rfl rfl rfl hdv_X3_look ⟨Nat.le_of_ble_eq_true rfl, Nat.le_of_ble_eq_true rfl⟩) (k_preVP hK hP [0, 1, 2, 3, 4, 5] rfl 0 rfl rfl) rfl rfl hl.1 rfl (lv_room (Nat.le_of_ble_eq_true rfl)) dX3_read_94 ⟨Nat.le_of_ble_eq_true rfl, Nat.le_of_ble_eq_true rfl⟩) ?_
              refine lv_istore_n (lv' := [(2, .int (lkN n fD x2 Db (updN Bx (r + 1) ((aa + 9) + Db (aa + 4))) (r + 1) ((aa + 9) + Db (aa + 4)))), (1, .int (nI ((aa + 9) + Db (aa + 4)))), (4, .int (nI k2)), (3, .int (nI ((aa + 9) + Db (aa + 4)))), (0, .ref h)]) hx hb dX3_read_97 rfl hl (by decide) rfl (fun ls hl => ?_)
              refine lv_goto (tgt := 23) hx hb dX3_read_98 (by decide) ?_
              exact ih x2 (upd y (r + 1) (nI ((aa + 9) + Db (aa + 4)))) (updN Bx (r + 1) ((aa + 9) + Db (aa + 4))) (r + 1) ((aa + 9) + Db (aa + 4)) (lkN n fD x2 Db (updN Bx (r + 1) ((aa + 9) + Db (aa + 4))) (r + 1) ((aa + 9) + Db (aa + 4))) (f - 1) _ _ ls rfl (by rw [rdN, if_pos (hw.symm.trans c1)] at hi; rw [show f - 1 + 1 = f by omega, ← hi, hx2, show k2 - aa = 9 + Db (aa + 4) by omega]; rfl) (fun j hj => (Nat.lt_or_ge r j).elim (fun h2 => by have h3 : j = r + 1 := (by omega); subst h3; rw [pk_us, uN_s]; exact ⟨rfl, by omega⟩) (fun h2 => by have h3 : ¬ j = r + 1 := (by omega); rw [pk_un h3, uN_n h3]; exact hBx j h2)) (by omega) (by omega) (by omega) (by omega) hP hD hS (lv_sub hl [0, 1, 4] rfl)
            · have nc3 : ¬ ((aa + 9) + Db (aa + 4)) ≤ k2 := fun h9 => c3 ((nI_leI (a := (aa + 9) + Db (aa + 4)) (b := k2) (by omega) (by omega)).mpr h9)
              refine lv_aload_n hx hb dX3_read_50 rfl (lv_at hl 4 rfl) ?_
              refine k_get (ci := 4) (T := TX3) (N := 13) (C := RX3) hx hb hts inX3 hown hK hP 0 rfl rfl 5 (by decide) fl20 rfl rfl dX3_read_51 ?_
              refine lv_iload hx hb dX3_read_54 (lv_at hl 0 rfl) ?_
              refine lv_aload_n hx hb dX3_read_56 rfl (lv_at hl 4 rfl) ?_
              refine k_get (ci := 4) (T := TX3) (N := 13) (C := RX3) hx hb hts inX3 hown hK hP 0 rfl rfl 1 (by decide) fl7 rfl rfl dX3_read_57 ?_
              refine lv_iload hx hb dX3_read_60 (lv_at hl 0 rfl) ?_
              refine k_ialdn (i := k2) hx hb hK hP 1 rfl (by omega) (by decide) dX3_read_62 ?_
              refine k_iastn (ws' := [(h, .inr (4, [.int (nI (32 * n)), .ref d1, .ref s1, .int bk2, .int 1, .ref i1, .ref b1, .int (nI r), .int (nI S), .int wr, .int th, .ref t1, .int 0])), (d1, .inl (cI, 2048, .inl fD)), (s1, .inl (cI, 2048, .inl fS)), (i1, .inl (cI, 2080, .inl (upd x2 k2 (fD k2)))), (b1, .inl (cI, 240, .inl y)), (t1, .inl (cI, 20, .inl fT))]) (j := k2) hx hb hK hP hD hS 3 rfl rfl (by omega) (by decide) dX3_read_63 rfl (fun H locs hP hD hS => ?_)
              refine lv_iinc (v := nI (k2 + 1)) (lv' := [(4, .int (nI (k2 + 1))), (3, .int (nI ((aa + 9) + Db (aa + 4)))), (2, .int w), (1, .int (nI aa)), (0, .ref h)]) hx hb dX3_read_64 hl (k := 0) rfl (nI_1 k2) (by decide) rfl (fun ls hl => ?_)
              refine lv_goto (tgt := 44) hx hb dX3_read_67 (by decide) ?_
              exact ih44 (k2 + 1) (upd x2 k2 (fD k2)) _ _ ls (by rw [show k2 + 1 - aa = (k2 - aa) + 1 by omega, cpN, ← hx2, show aa + (k2 - aa) = k2 by omega]) (by omega) (by omega) (by omega) hP hD hS (lv_sub hl [0, 1, 2, 3, 4] rfl)
        exact loop44 _ aa x _ _ ls (by rw [Nat.sub_self]; rfl) (Nat.le_refl _) (by omega) (Nat.lt_succ_self _) hP hD hS (lv_sub hl [0, 1, 2, 3, 4] rfl)
  exact loop23 _ fI fB Bg 0 0 (lkN n fD fI Db Bg 0 0) (32 * n) _ _ ls rfl rfl (fun j hj => by have : j = 0 := (by omega); subst this; exact ⟨hB0, by omega⟩) (Nat.zero_le _) (Nat.zero_le _) (Nat.le_refl _) (Nat.lt_succ_self _) hP hD hS (lv_sub hl [0, 1, 2] rfl)
set_option maxHeartbeats 4000000 in
set_option maxRecDepth 100000 in
theorem m_X3_start (l : Launch) (dC : Nat → ClassId) (dI : Nat → Nat → Nat) (cI cJ : ClassId) (h : Nat) (d1 : Nat) (s1 : Nat) (i1 : Nat) (b1 : Nat) (t1 : Nat) (fD : Nat → Int32) (fS : Nat → Int32) (fI : Nat → Int32) (fB : Nat → Int32) (fT : Nat → Int32) (n : Nat) (R : Nat) (S : Nat) (T : Nat) (bk2 : Int32) (up2 : Int32) (wr : Int32) (th : Int32) (Bg : Nat → Nat) (Db : Nat → Nat) (hn : n ≤ 64) (hDb : ∀ j, j < 2048 → fD j = nI (Db j) ∧ Db j ≤ 255) (hB0 : fB 0 = nI (Bg 0)) (hB00 : Bg 0 = 0) : cW l yX3_start wsX3_start ({ frames := 5, cells := 0, slots := 0, locals := 117 }) dC dI cI cJ [(h, .inr (4, [.int (nI (32 * n)), .ref d1, .ref s1, .int bk2, .int up2, .ref i1, .ref b1, .int (nI R), .int (nI S), .int wr, .int th, .ref t1, .int (nI T)])), (d1, .inl (cI, 2048, .inl fD)), (s1, .inl (cI, 2048, .inl fS)), (i1, .inl (cI, 2080, .inl fI)), (b1, .inl (cI, 240, .inl fB)), (t1, .inl (cI, 20, .inl fT))] [(h, .inr (4, [.int (nI (32 * n)), .ref d1, .ref s1, .int bk2, .int 1, .ref i1, .ref b1, .int (nI ((rdN n fD Db (32 * n + 1) (fI, fB, Bg, 0, 0)).1.2.2.2.1)), .int (nI ((rdN n fD Db (32 * n + 1) (fI, fB, Bg, 0, 0)).1.2.2.2.1)), .int (if (rdN n fD Db (32 * n + 1) (fI, fB, Bg, 0, 0)).2 = 7 then 0 else (rdN n fD Db (32 * n + 1) (fI, fB, Bg, 0, 0)).2), .int 0, .ref t1, .int 0])), (d1, .inl (cI, 2048, .inl fD)), (s1, .inl (cI, 2048, .inl fS)), (i1, .inl (cI, 2080, .inl ((rdN n fD Db (32 * n + 1) (fI, fB, Bg, 0, 0)).1.1))), (b1, .inl (cI, 240, .inl ((rdN n fD Db (32 * n + 1) (fI, fB, Bg, 0, 0)).1.2.1))), (t1, .inl (cI, 20, .inl fT))] [h, d1, s1, i1, b1, t1] [.ref h] (some (.int (nI (rdN n fD Db (32 * n + 1) (fI, fB, Bg, 0, 0)).1.2.2.2.1))) := by
  refine Met.ofW (cc := cX3_start) (maxL := 1) (ret := (some .int)) (by decide) rfl ?_
  intro p e s m args below meth c s₁ B hml hv
  obtain ⟨rfl, hP, hK, hD0⟩ := hv
  have hx := B.exec
  have hb := B.bytes
  have hr := B.returns
  have hts := atoms_spec (ws := wsX3_start) B.pre
  have hown : s.vm.findClass RX3 = some m.cls := findClass_of_methodNamed B.named
  have hlocks := B.notSynchronized
  have inX3 : ∀ w ∈ wsX30, w ∈ wsX3_start := fun w h => (List.mem_cons_of_mem _ (List.mem_append_right _ h))
  have fl33 := hts (.fieldLink RX3 33 "StockLogModel" "thrown" "I") (by decide +kernel)
  have fl41 := hts (.fieldLink RX3 41 "StockLogModel" "rows" "I") (by decide +kernel)
  have hD : va_D (mA [h, d1, s1, i1, b1, t1]) [(h, .inr (4, [.int (nI (32 * n)), .ref d1, .ref s1, .int bk2, .int up2, .ref i1, .ref b1, .int (nI R), .int (nI S), .int wr, .int th, .ref t1, .int (nI T)])), (d1, .inl (cI, 2048, .inl fD)), (s1, .inl (cI, 2048, .inl fS)), (i1, .inl (cI, 2080, .inl fI)), (b1, .inl (cI, 240, .inl fB)), (t1, .inl (cI, 20, .inl fT))] := k_Dw hD0 rfl
  have hS : va_S (mA [h, d1, s1, i1, b1, t1]) s.heap s.heap [] := va_S.rf
  have hl := lv_entry ([.ref h]) (n := 1) (Nat.le_of_ble_eq_true rfl)
  rw [lg_entry_eq]
  generalize (lg_sl ([.ref h]) ++ List.replicate (1 - (lg_sl ([.ref h])).length) Slot.unset).toArray = ls at hl ⊢
  have hl : lv_has ls 1 [(0, .ref h)] := hl
  refine lv_aload_n hx hb dX3_start_0 rfl (lv_at hl 0 rfl) ?_
  refine lv_iconst (v := 0) hx hb dX3_start_1 (by decide) ?_
  refine k_putf (ws' := [(h, .inr (4, [.int (nI (32 * n)), .ref d1, .ref s1, .int bk2, .int up2, .ref i1, .ref b1, .int (nI R), .int (nI S), .int wr, .int 0, .ref t1, .int (nI T)])), (d1, .inl (cI, 2048, .inl fD)), (s1, .inl (cI, 2048, .inl fS)), (i1, .inl (cI, 2080, .inl fI)), (b1, .inl (cI, 240, .inl fB)), (t1, .inl (cI, 20, .inl fT))]) (ci := 4) (T := TX3) (N := 13) (C := RX3) (ty := .int) hx hb hts inX3 tyX3 tyX3_ok nmX3 hown hK hP hD hS 0 rfl rfl 10 (by decide) fl33 rfl rfl rfl rfl rfl (Nat.le_of_ble_eq_true rfl) dX3_start_2 rfl (fun H locs hP hD hS => ?_)
  refine lv_aload_n hx hb dX3_start_5 rfl (lv_at hl 0 rfl) ?_
  refine k_afW (wc := [(h, .inr (4, [.int (nI (32 * n)), .ref d1, .ref s1, .int bk2, .int up2, .ref i1, .ref b1, .int (nI R), .int (nI S), .int wr, .int 0, .ref t1, .int (nI T)])), (d1, .inl (cI, 2048, .inl fD)), (s1, .inl (cI, 2048, .inl fS)), (i1, .inl (cI, 2080, .inl fI)), (b1, .inl (cI, 240, .inl fB)), (t1, .inl (cI, 20, .inl fT))]) (ws' := [(h, .inr (4, [.int (nI (32 * n)), .ref d1, .ref s1, .int bk2, .int (nI 1), .ref i1, .ref b1, .int (nI ((rdN n fD Db (32 * n + 1) (fI, fB, Bg, 0, 0)).1.2.2.2.1)), .int (nI ((rdN n fD Db (32 * n + 1) (fI, fB, Bg, 0, 0)).1.2.2.2.1)), .int (if (rdN n fD Db (32 * n + 1) (fI, fB, Bg, 0, 0)).2 = 7 then 0 else (rdN n fD Db (32 * n + 1) (fI, fB, Bg, 0, 0)).2), .int 0, .ref t1, .int (nI 0)])), (d1, .inl (cI, 2048, .inl fD)), (s1, .inl (cI, 2048, .inl fS)), (i1, .inl (cI, 2080, .inl ((rdN n fD Db (32 * n + 1) (fI, fB, Bg, 0, 0)).1.1))), (b1, .inl (cI, 240, .inl ((rdN n fD Db (32 * n + 1) (fI, fB, Bg, 0, 0)).1.2.1))), (t1, .inl (cI, 20, .inl fT))]) (va_runV (rest := []) ⟨hx, hb, hml, hown, hts⟩ (m_X3_read l dC dI cI cJ h d1 s1 i1 b1 t1 fD fS fI fB fT n R S T bk2 up2 wr 0 Bg Db (by omega) hDb hB0 (by omega)) (cwV 0 hts gX3_start_X3_read rfl rfl rfl hdv_X3_read ⟨Nat.le_of_ble_eq_true rfl, Nat.le_of_ble_eq_true rfl⟩) (k_preVW hK hP hD [0, 1, 2, 3, 4, 5] rfl rfl 0 rfl rfl) rfl rfl hl.1 rfl (lv_room (Nat.le_of_ble_eq_true rfl)) dX3_start_6 ⟨Nat.le_of_ble_eq_true rfl, Nat.le_of_ble_eq_true rfl⟩) hP hD hS [0, 1, 2, 3, 4, 5] rfl rfl rfl rfl (fun H locs hP hD hS => ?_)
  refine lv_aload_n hx hb dX3_start_9 rfl (lv_at hl 0 rfl) ?_
  refine k_get (ci := 4) (T := TX3) (N := 13) (C := RX3) hx hb hts inX3 hown hK hP 0 rfl rfl 7 (by decide) fl41 rfl rfl dX3_start_10 ?_
  exact k_iretW hx hb hr hlocks hP hS rfl rfl dX3_start_13
set_option maxHeartbeats 4000000 in
set_option maxRecDepth 100000 in
theorem m_X3_isByte (l : Launch) (dC : Nat → ClassId) (dI : Nat → Nat → Nat) (cI cJ : ClassId) (h : Nat) (d1 : Nat) (s1 : Nat) (i1 : Nat) (b1 : Nat) (t1 : Nat) (fD : Nat → Int32) (fS : Nat → Int32) (fI : Nat → Int32) (fB : Nat → Int32) (fT : Nat → Int32) (n : Nat) (R : Nat) (S : Nat) (T : Nat) (bk2 : Int32) (up2 : Int32) (wr : Int32) (th : Int32) (sector : Int32) (i : Int32) (hn : n ≤ 64) : cP l yX3_isByte wsX3_isByte ({ frames := 1, cells := 0, slots := 0, locals := 22 }) dC dI cI cJ [(h, .inr (4, [.int (nI (32 * n)), .ref d1, .ref s1, .int bk2, .int up2, .ref i1, .ref b1, .int (nI R), .int (nI S), .int wr, .int th, .ref t1, .int (nI T)])), (d1, .inl (cI, 2048, .inl fD)), (s1, .inl (cI, 2048, .inl fS)), (i1, .inl (cI, 2080, .inl fI)), (b1, .inl (cI, 240, .inl fB)), (t1, .inl (cI, 20, .inl fT))] [.ref h, .int sector, .int i] (isB n sector i) := by
  refine Met.ofW (cc := cX3_isByte) (maxL := 3) (ret := (some .boolean)) (by decide) rfl ?_
  intro p e s m args below meth c s₁ B hml hv
  obtain ⟨rfl, hP, hK⟩ := hv
  have hx := B.exec
  have hb := B.bytes
  have hr := B.returns
  have hts := atoms_spec (ws := wsX3_isByte) B.pre
  have hown : s.vm.findClass RX3 = some m.cls := findClass_of_methodNamed B.named
  have hlocks := B.notSynchronized
  have inX3 : ∀ w ∈ wsX30, w ∈ wsX3_isByte := fun w h => (List.mem_cons_of_mem _ (List.mem_append_right _ h))
  have fl29 := hts (.fieldLink RX3 29 "StockLogModel" "size" "I") (by decide +kernel)
  have hl := lv_entry ([.ref h, .int sector, .int i]) (n := 3) (Nat.le_of_ble_eq_true rfl)
  rw [lg_entry_eq]
  generalize (lg_sl ([.ref h, .int sector, .int i]) ++ List.replicate (3 - (lg_sl ([.ref h, .int sector, .int i])).length) Slot.unset).toArray = ls at hl ⊢
  have hl : lv_has ls 3 [(0, .ref h), (1, .int sector), (2, .int i)] := hl
  refine lv_iload_n hx hb dX3_isByte_0 rfl (lv_at hl 1 rfl) ?_
  refine lv_iconst (v := 0) hx hb dX3_isByte_1 (by decide) ?_
  refine lv_aload_n hx hb dX3_isByte_2 rfl (lv_at hl 0 rfl) ?_
  refine k_get (ci := 4) (T := TX3) (N := 13) (C := RX3) hx hb hts inX3 hown hK hP 0 rfl rfl 0 (by decide) fl29 rfl rfl dX3_isByte_3 ?_
  refine lv_bipush (v := 32) hx hb dX3_isByte_6 (by decide) ?_
  refine lv_idiv hx hb dX3_isByte_8 (by decide) ?_
  refine k_nrm (y := nI ((32 * n) / 32)) (pk_div (a := 32 * n) (d := 32) (by omega) (by decide) (by decide)) ?_
  refine lv_iconst (v := 1) hx hb dX3_isByte_9 (by decide) ?_
  refine lv_isub hx hb dX3_isByte_10 ?_
  refine k_afP (va_runS (rest := []) ⟨hx, hb, hml, hown, hts⟩ (m_X3_within l dC dI cI cJ sector 0 ((nI ((32 * n) / 32)) - 1) ) (cwS 3 hts gX3_isByte_X3_within rfl rfl rfl hds_X3_within ⟨Nat.le_of_ble_eq_true rfl, Nat.le_of_ble_eq_true rfl⟩) (k_preSP hK hP [] rfl) rfl rfl hl.1 rfl (lv_room (Nat.le_of_ble_eq_true rfl)) dX3_isByte_11 ⟨Nat.le_of_ble_eq_true rfl, Nat.le_of_ble_eq_true rfl⟩) ?_
  refine lv_if_eq (tgt := 31) hx hb dX3_isByte_14 (by decide) (fun c1 => ?_) (fun c1 => ?_)
  · refine lv_iconst (v := 0) hx hb dX3_isByte_31 (by decide) ?_
    exact k_zretP (ret := none) hx hb hr hlocks (by simp only [isB, if_pos c1]) (Or.inl rfl) rfl dX3_isByte_32
  · refine lv_iload_n hx hb dX3_isByte_17 rfl (lv_at hl 2 rfl) ?_
    refine lv_iconst (v := 0) hx hb dX3_isByte_18 (by decide) ?_
    refine lv_bipush (v := 31) hx hb dX3_isByte_19 (by decide) ?_
    refine k_afP (va_runS (rest := []) ⟨hx, hb, hml, hown, hts⟩ (m_X3_within l dC dI cI cJ i 0 31 ) (cwS 3 hts gX3_isByte_X3_within rfl rfl rfl hds_X3_within ⟨Nat.le_of_ble_eq_true rfl, Nat.le_of_ble_eq_true rfl⟩) (k_preSP hK hP [] rfl) rfl rfl hl.1 rfl (lv_room (Nat.le_of_ble_eq_true rfl)) dX3_isByte_21 ⟨Nat.le_of_ble_eq_true rfl, Nat.le_of_ble_eq_true rfl⟩) ?_
    refine lv_if_eq (tgt := 31) hx hb dX3_isByte_24 (by decide) (fun c2 => ?_) (fun c2 => ?_)
    · refine lv_iconst (v := 0) hx hb dX3_isByte_31 (by decide) ?_
      exact k_zretP (ret := none) hx hb hr hlocks (by simp only [isB, if_neg c1, if_pos c2]) (Or.inl rfl) rfl dX3_isByte_32
    · refine lv_iconst (v := 1) hx hb dX3_isByte_27 (by decide) ?_
      refine lv_goto (tgt := 32) hx hb dX3_isByte_28 (by decide) ?_
      exact k_zretP (ret := none) hx hb hr hlocks (by simp only [isB, if_neg c1, if_neg c2]) (Or.inr rfl) rfl dX3_isByte_32
set_option maxHeartbeats 4000000 in
set_option maxRecDepth 100000 in
theorem m_X3_poke (l : Launch) (dC : Nat → ClassId) (dI : Nat → Nat → Nat) (cI cJ : ClassId) (h : Nat) (d1 : Nat) (s1 : Nat) (i1 : Nat) (b1 : Nat) (t1 : Nat) (fD : Nat → Int32) (fS : Nat → Int32) (fI : Nat → Int32) (fB : Nat → Int32) (fT : Nat → Int32) (n : Nat) (R : Nat) (S : Nat) (T : Nat) (bk2 : Int32) (up2 : Int32) (wr : Int32) (th : Int32) (sc : Nat) (ix : Nat) (mask : Int32) (hn : n ≤ 64) (hsc : sc < n) (hix : ix < 32) (hib : ¬ isB n (nI sc) (nI ix) = 0) : cW l yX3_poke wsX3_poke ({ frames := 2, cells := 0, slots := 0, locals := 44 }) dC dI cI cJ [(h, .inr (4, [.int (nI (32 * n)), .ref d1, .ref s1, .int bk2, .int up2, .ref i1, .ref b1, .int (nI R), .int (nI S), .int wr, .int th, .ref t1, .int (nI T)])), (d1, .inl (cI, 2048, .inl fD)), (s1, .inl (cI, 2048, .inl fS)), (i1, .inl (cI, 2080, .inl fI)), (b1, .inl (cI, 240, .inl fB)), (t1, .inl (cI, 20, .inl fT))] [(h, .inr (4, [.int (nI (32 * n)), .ref d1, .ref s1, .int bk2, .int up2, .ref i1, .ref b1, .int (nI R), .int (nI S), .int wr, .int (thPoke n (nI sc) (nI ix) mask), .ref t1, .int (nI T)])), (d1, .inl (cI, 2048, .inl (if thPoke n (nI sc) (nI ix) mask = 0 then upd fD (32 * sc + ix) ((fD (32 * sc + ix)) ^^^ mask) else fD))), (s1, .inl (cI, 2048, .inl fS)), (i1, .inl (cI, 2080, .inl fI)), (b1, .inl (cI, 240, .inl fB)), (t1, .inl (cI, 20, .inl fT))] [h, d1, s1, i1, b1, t1] [.ref h, .int (nI sc), .int (nI ix), .int mask] (some (.int (if thPoke n (nI sc) (nI ix) mask = 0 then (upd fD (32 * sc + ix) ((fD (32 * sc + ix)) ^^^ mask)) (32 * sc + ix) else 0))) := by
  refine Met.ofW (cc := cX3_poke) (maxL := 4) (ret := (some .int)) (by decide) rfl ?_
  intro p e s m args below meth c s₁ B hml hv
  obtain ⟨rfl, hP, hK, hD0⟩ := hv
  have hx := B.exec
  have hb := B.bytes
  have hr := B.returns
  have hts := atoms_spec (ws := wsX3_poke) B.pre
  have hown : s.vm.findClass RX3 = some m.cls := findClass_of_methodNamed B.named
  have hlocks := B.notSynchronized
  have inX3 : ∀ w ∈ wsX30, w ∈ wsX3_poke := fun w h => (List.mem_cons_of_mem _ (List.mem_append_right _ h))
  have fl7 := hts (.fieldLink RX3 7 "StockLogModel" "disk" "[I") (by decide +kernel)
  have fl33 := hts (.fieldLink RX3 33 "StockLogModel" "thrown" "I") (by decide +kernel)
  have hD : va_D (mA [h, d1, s1, i1, b1, t1]) [(h, .inr (4, [.int (nI (32 * n)), .ref d1, .ref s1, .int bk2, .int up2, .ref i1, .ref b1, .int (nI R), .int (nI S), .int wr, .int th, .ref t1, .int (nI T)])), (d1, .inl (cI, 2048, .inl fD)), (s1, .inl (cI, 2048, .inl fS)), (i1, .inl (cI, 2080, .inl fI)), (b1, .inl (cI, 240, .inl fB)), (t1, .inl (cI, 20, .inl fT))] := k_Dw hD0 rfl
  have hS : va_S (mA [h, d1, s1, i1, b1, t1]) s.heap s.heap [] := va_S.rf
  have hl := lv_entry ([.ref h, .int (nI sc), .int (nI ix), .int mask]) (n := 4) (Nat.le_of_ble_eq_true rfl)
  rw [lg_entry_eq]
  generalize (lg_sl ([.ref h, .int (nI sc), .int (nI ix), .int mask]) ++ List.replicate (4 - (lg_sl ([.ref h, .int (nI sc), .int (nI ix), .int mask])).length) Slot.unset).toArray = ls at hl ⊢
  have hl : lv_has ls 4 [(0, .ref h), (1, .int (nI sc)), (2, .int (nI ix)), (3, .int mask)] := hl
  refine lv_aload_n hx hb dX3_poke_0 rfl (lv_at hl 0 rfl) ?_
  refine lv_iload_n hx hb dX3_poke_1 rfl (lv_at hl 3 rfl) ?_
  refine lv_iconst (v := 1) hx hb dX3_poke_2 (by decide) ?_
  refine lv_sipush (v := 255) hx hb dX3_poke_3 (by decide) ?_
  refine k_afP (va_runS (rest := [.ref h]) ⟨hx, hb, hml, hown, hts⟩ (m_X3_within l dC dI cI cJ mask 1 255 ) (cwS 3 hts gX3_poke_X3_within rfl rfl rfl hds_X3_within ⟨Nat.le_of_ble_eq_true rfl, Nat.le_of_ble_eq_true rfl⟩) (k_preSP hK hP [] rfl) rfl rfl hl.1 rfl (lv_room (Nat.le_of_ble_eq_true rfl)) dX3_poke_6 ⟨Nat.le_of_ble_eq_true rfl, Nat.le_of_ble_eq_true rfl⟩) ?_
  refine lv_if_ne (tgt := 16) hx hb dX3_poke_9 (by decide) (fun c1 => ?_) (fun c1 => ?_)
  · refine lv_aload_n hx hb dX3_poke_16 rfl (lv_at hl 0 rfl) ?_
    refine lv_iload_n hx hb dX3_poke_17 rfl (lv_at hl 1 rfl) ?_
    refine lv_iload_n hx hb dX3_poke_18 rfl (lv_at hl 2 rfl) ?_
    refine k_afP (va_runV (rest := [.ref h]) ⟨hx, hb, hml, hown, hts⟩ (m_X3_isByte l dC dI cI cJ h d1 s1 i1 b1 t1 fD fS fI fB fT n R S T bk2 up2 wr th (nI sc) (nI ix) (by first | assumption | decide)) (cwV 2 hts gX3_poke_X3_isByte rfl rfl rfl hdv_X3_isByte ⟨Nat.le_of_ble_eq_true rfl, Nat.le_of_ble_eq_true rfl⟩) (k_preVP hK hP [0, 1, 2, 3, 4, 5] rfl 0 rfl rfl) rfl rfl hl.1 rfl (lv_room (Nat.le_of_ble_eq_true rfl)) dX3_poke_19 ⟨Nat.le_of_ble_eq_true rfl, Nat.le_of_ble_eq_true rfl⟩) ?_
    refine lv_if_ne (tgt := 29) hx hb dX3_poke_22 (by decide) (fun c2 => ?_) (fun c2 => ?_)
    · refine lv_iconst (v := 0) hx hb dX3_poke_29 (by decide) ?_
      refine k_putf (ws' := [(h, .inr (4, [.int (nI (32 * n)), .ref d1, .ref s1, .int bk2, .int up2, .ref i1, .ref b1, .int (nI R), .int (nI S), .int wr, .int 0, .ref t1, .int (nI T)])), (d1, .inl (cI, 2048, .inl fD)), (s1, .inl (cI, 2048, .inl fS)), (i1, .inl (cI, 2080, .inl fI)), (b1, .inl (cI, 240, .inl fB)), (t1, .inl (cI, 20, .inl fT))]) (ci := 4) (T := TX3) (N := 13) (C := RX3) (ty := .int) hx hb hts inX3 tyX3 tyX3_ok nmX3 hown hK hP hD hS 0 rfl rfl 10 (by decide) fl33 rfl rfl rfl rfl rfl (Nat.le_of_ble_eq_true rfl) dX3_poke_30 rfl (fun H locs hP hD hS => ?_)
      refine lv_aload_n hx hb dX3_poke_33 rfl (lv_at hl 0 rfl) ?_
      refine k_get (ci := 4) (T := TX3) (N := 13) (C := RX3) hx hb hts inX3 hown hK hP 0 rfl rfl 10 (by decide) fl33 rfl rfl dX3_poke_34 ?_
      refine lv_if_eq (tgt := 42) hx hb dX3_poke_37 (by decide) (fun c3 => ?_) (fun c3 => ?_)
      · refine lv_aload_n hx hb dX3_poke_42 rfl (lv_at hl 0 rfl) ?_
        refine k_get (ci := 4) (T := TX3) (N := 13) (C := RX3) hx hb hts inX3 hown hK hP 0 rfl rfl 1 (by decide) fl7 rfl rfl dX3_poke_43 ?_
        refine lv_bipush (v := 32) hx hb dX3_poke_46 (by decide) ?_
        refine lv_iload_n hx hb dX3_poke_48 rfl (lv_at hl 1 rfl) ?_
        refine lv_imul hx hb dX3_poke_49 ?_
        refine k_nrm (y := nI (32 * sc)) (pk_mul 32 sc) ?_
        refine lv_iload_n hx hb dX3_poke_50 rfl (lv_at hl 2 rfl) ?_
        refine lv_iadd hx hb dX3_poke_51 ?_
        refine k_nrm (y := nI ((32 * sc) + ix)) (nI_add (32 * sc) ix) ?_
        refine lv_dup2_11 hx hb dX3_poke_52 rfl rfl ?_
        refine k_ialdn (i := (32 * sc) + ix) hx hb hK hP 1 rfl (by omega) (by decide) dX3_poke_53 ?_
        refine lv_iload_n hx hb dX3_poke_54 rfl (lv_at hl 3 rfl) ?_
        refine lv_ixor hx hb dX3_poke_55 ?_
        refine k_iastn (ws' := [(h, .inr (4, [.int (nI (32 * n)), .ref d1, .ref s1, .int bk2, .int up2, .ref i1, .ref b1, .int (nI R), .int (nI S), .int wr, .int 0, .ref t1, .int (nI T)])), (d1, .inl (cI, 2048, .inl (upd fD ((32 * sc) + ix) ((fD ((32 * sc) + ix)) ^^^ mask)))), (s1, .inl (cI, 2048, .inl fS)), (i1, .inl (cI, 2080, .inl fI)), (b1, .inl (cI, 240, .inl fB)), (t1, .inl (cI, 20, .inl fT))]) (j := (32 * sc) + ix) hx hb hK hP hD hS 1 rfl rfl (by omega) (by decide) dX3_poke_56 rfl (fun H locs hP hD hS => ?_)
        refine lv_aload_n hx hb dX3_poke_57 rfl (lv_at hl 0 rfl) ?_
        refine k_get (ci := 4) (T := TX3) (N := 13) (C := RX3) hx hb hts inX3 hown hK hP 0 rfl rfl 1 (by decide) fl7 rfl rfl dX3_poke_58 ?_
        refine lv_bipush (v := 32) hx hb dX3_poke_61 (by decide) ?_
        refine lv_iload_n hx hb dX3_poke_63 rfl (lv_at hl 1 rfl) ?_
        refine lv_imul hx hb dX3_poke_64 ?_
        refine k_nrm (y := nI (32 * sc)) (pk_mul 32 sc) ?_
        refine lv_iload_n hx hb dX3_poke_65 rfl (lv_at hl 2 rfl) ?_
        refine lv_iadd hx hb dX3_poke_66 ?_
        refine k_nrm (y := nI ((32 * sc) + ix)) (nI_add (32 * sc) ix) ?_
        refine k_ialdn (i := (32 * sc) + ix) hx hb hK hP 1 rfl (by omega) (by decide) dX3_poke_67 ?_
        exact k_iretW hx hb hr hlocks hP hS (by have hth : thPoke n (nI sc) (nI ix) mask = 0 := (by simp only [thPoke, if_neg hib, if_neg c1, if_neg c2, if_pos c3]); (simp only [hth, il0, if_true]) <;> rfl) (by have hth : thPoke n (nI sc) (nI ix) mask = 0 := (by simp only [thPoke, if_neg hib, if_neg c1, if_neg c2, if_pos c3]); (simp only [hth, il0, if_true]) <;> rfl) dX3_poke_68
      · exact absurd c3 (by decide)
    · exact absurd c2 hib
  · refine lv_iconst (v := 1) hx hb dX3_poke_12 (by decide) ?_
    refine lv_goto (tgt := 30) hx hb dX3_poke_13 (by decide) ?_
    refine k_putf (ws' := [(h, .inr (4, [.int (nI (32 * n)), .ref d1, .ref s1, .int bk2, .int up2, .ref i1, .ref b1, .int (nI R), .int (nI S), .int wr, .int 1, .ref t1, .int (nI T)])), (d1, .inl (cI, 2048, .inl fD)), (s1, .inl (cI, 2048, .inl fS)), (i1, .inl (cI, 2080, .inl fI)), (b1, .inl (cI, 240, .inl fB)), (t1, .inl (cI, 20, .inl fT))]) (ci := 4) (T := TX3) (N := 13) (C := RX3) (ty := .int) hx hb hts inX3 tyX3 tyX3_ok nmX3 hown hK hP hD hS 0 rfl rfl 10 (by decide) fl33 rfl rfl rfl rfl rfl (Nat.le_of_ble_eq_true rfl) dX3_poke_30 rfl (fun H locs hP hD hS => ?_)
    refine lv_aload_n hx hb dX3_poke_33 rfl (lv_at hl 0 rfl) ?_
    refine k_get (ci := 4) (T := TX3) (N := 13) (C := RX3) hx hb hts inX3 hown hK hP 0 rfl rfl 10 (by decide) fl33 rfl rfl dX3_poke_34 ?_
    refine lv_if_eq (tgt := 42) hx hb dX3_poke_37 (by decide) (fun c4 => ?_) (fun c4 => ?_)
    · exact absurd c4 (by decide)
    · refine lv_iconst (v := 0) hx hb dX3_poke_40 (by decide) ?_
      exact k_iretW hx hb hr hlocks hP hS (by have hth : thPoke n (nI sc) (nI ix) mask = 1 := (by simp only [thPoke, if_pos c1, if_neg c4]); (simp only [hth, il1, il2, if_false]) <;> rfl) (by have hth : thPoke n (nI sc) (nI ix) mask = 1 := (by simp only [thPoke, if_pos c1, if_neg c4]); (simp only [hth, il1, il2, if_false]) <;> rfl) dX3_poke_41
set_option maxHeartbeats 4000000 in
set_option maxRecDepth 100000 in
theorem m_X3_pokeX (l : Launch) (dC : Nat → ClassId) (dI : Nat → Nat → Nat) (cI cJ : ClassId) (h : Nat) (d1 : Nat) (s1 : Nat) (i1 : Nat) (b1 : Nat) (t1 : Nat) (fD : Nat → Int32) (fS : Nat → Int32) (fI : Nat → Int32) (fB : Nat → Int32) (fT : Nat → Int32) (n : Nat) (R : Nat) (S : Nat) (T : Nat) (bk2 : Int32) (up2 : Int32) (wr : Int32) (th : Int32) (sector : Int32) (i : Int32) (mask : Int32) (hn : n ≤ 64) (hib : isB n sector i = 0) : cW l yX3_poke wsX3_poke ({ frames := 2, cells := 0, slots := 0, locals := 44 }) dC dI cI cJ [(h, .inr (4, [.int (nI (32 * n)), .ref d1, .ref s1, .int bk2, .int up2, .ref i1, .ref b1, .int (nI R), .int (nI S), .int wr, .int th, .ref t1, .int (nI T)])), (d1, .inl (cI, 2048, .inl fD)), (s1, .inl (cI, 2048, .inl fS)), (i1, .inl (cI, 2080, .inl fI)), (b1, .inl (cI, 240, .inl fB)), (t1, .inl (cI, 20, .inl fT))] [(h, .inr (4, [.int (nI (32 * n)), .ref d1, .ref s1, .int bk2, .int up2, .ref i1, .ref b1, .int (nI R), .int (nI S), .int wr, .int (thPoke n sector i mask), .ref t1, .int (nI T)])), (d1, .inl (cI, 2048, .inl fD)), (s1, .inl (cI, 2048, .inl fS)), (i1, .inl (cI, 2080, .inl fI)), (b1, .inl (cI, 240, .inl fB)), (t1, .inl (cI, 20, .inl fT))] [h, d1, s1, i1, b1, t1] [.ref h, .int sector, .int i, .int mask] (some (.int 0)) := by
  refine Met.ofW (cc := cX3_poke) (maxL := 4) (ret := (some .int)) (by decide) rfl ?_
  intro p e s m args below meth c s₁ B hml hv
  obtain ⟨rfl, hP, hK, hD0⟩ := hv
  have hx := B.exec
  have hb := B.bytes
  have hr := B.returns
  have hts := atoms_spec (ws := wsX3_poke) B.pre
  have hown : s.vm.findClass RX3 = some m.cls := findClass_of_methodNamed B.named
  have hlocks := B.notSynchronized
  have inX3 : ∀ w ∈ wsX30, w ∈ wsX3_poke := fun w h => (List.mem_cons_of_mem _ (List.mem_append_right _ h))
  have fl33 := hts (.fieldLink RX3 33 "StockLogModel" "thrown" "I") (by decide +kernel)
  have hD : va_D (mA [h, d1, s1, i1, b1, t1]) [(h, .inr (4, [.int (nI (32 * n)), .ref d1, .ref s1, .int bk2, .int up2, .ref i1, .ref b1, .int (nI R), .int (nI S), .int wr, .int th, .ref t1, .int (nI T)])), (d1, .inl (cI, 2048, .inl fD)), (s1, .inl (cI, 2048, .inl fS)), (i1, .inl (cI, 2080, .inl fI)), (b1, .inl (cI, 240, .inl fB)), (t1, .inl (cI, 20, .inl fT))] := k_Dw hD0 rfl
  have hS : va_S (mA [h, d1, s1, i1, b1, t1]) s.heap s.heap [] := va_S.rf
  have hl := lv_entry ([.ref h, .int sector, .int i, .int mask]) (n := 4) (Nat.le_of_ble_eq_true rfl)
  rw [lg_entry_eq]
  generalize (lg_sl ([.ref h, .int sector, .int i, .int mask]) ++ List.replicate (4 - (lg_sl ([.ref h, .int sector, .int i, .int mask])).length) Slot.unset).toArray = ls at hl ⊢
  have hl : lv_has ls 4 [(0, .ref h), (1, .int sector), (2, .int i), (3, .int mask)] := hl
  refine lv_aload_n hx hb dX3_poke_0 rfl (lv_at hl 0 rfl) ?_
  refine lv_iload_n hx hb dX3_poke_1 rfl (lv_at hl 3 rfl) ?_
  refine lv_iconst (v := 1) hx hb dX3_poke_2 (by decide) ?_
  refine lv_sipush (v := 255) hx hb dX3_poke_3 (by decide) ?_
  refine k_afP (va_runS (rest := [.ref h]) ⟨hx, hb, hml, hown, hts⟩ (m_X3_within l dC dI cI cJ mask 1 255 ) (cwS 3 hts gX3_poke_X3_within rfl rfl rfl hds_X3_within ⟨Nat.le_of_ble_eq_true rfl, Nat.le_of_ble_eq_true rfl⟩) (k_preSP hK hP [] rfl) rfl rfl hl.1 rfl (lv_room (Nat.le_of_ble_eq_true rfl)) dX3_poke_6 ⟨Nat.le_of_ble_eq_true rfl, Nat.le_of_ble_eq_true rfl⟩) ?_
  refine lv_if_ne (tgt := 16) hx hb dX3_poke_9 (by decide) (fun c1 => ?_) (fun c1 => ?_)
  · refine lv_aload_n hx hb dX3_poke_16 rfl (lv_at hl 0 rfl) ?_
    refine lv_iload_n hx hb dX3_poke_17 rfl (lv_at hl 1 rfl) ?_
    refine lv_iload_n hx hb dX3_poke_18 rfl (lv_at hl 2 rfl) ?_
    refine k_afP (va_runV (rest := [.ref h]) ⟨hx, hb, hml, hown, hts⟩ (m_X3_isByte l dC dI cI cJ h d1 s1 i1 b1 t1 fD fS fI fB fT n R S T bk2 up2 wr th sector i (by first | assumption | decide)) (cwV 2 hts gX3_poke_X3_isByte rfl rfl rfl hdv_X3_isByte ⟨Nat.le_of_ble_eq_true rfl, Nat.le_of_ble_eq_true rfl⟩) (k_preVP hK hP [0, 1, 2, 3, 4, 5] rfl 0 rfl rfl) rfl rfl hl.1 rfl (lv_room (Nat.le_of_ble_eq_true rfl)) dX3_poke_19 ⟨Nat.le_of_ble_eq_true rfl, Nat.le_of_ble_eq_true rfl⟩) ?_
    refine lv_if_ne (tgt := 29) hx hb dX3_poke_22 (by decide) (fun c2 => ?_) (fun c2 => ?_)
    · exact absurd hib c2
    · refine lv_iconst (v := 2) hx hb dX3_poke_25 (by decide) ?_
      refine lv_goto (tgt := 30) hx hb dX3_poke_26 (by decide) ?_
      refine k_putf (ws' := [(h, .inr (4, [.int (nI (32 * n)), .ref d1, .ref s1, .int bk2, .int up2, .ref i1, .ref b1, .int (nI R), .int (nI S), .int wr, .int 2, .ref t1, .int (nI T)])), (d1, .inl (cI, 2048, .inl fD)), (s1, .inl (cI, 2048, .inl fS)), (i1, .inl (cI, 2080, .inl fI)), (b1, .inl (cI, 240, .inl fB)), (t1, .inl (cI, 20, .inl fT))]) (ci := 4) (T := TX3) (N := 13) (C := RX3) (ty := .int) hx hb hts inX3 tyX3 tyX3_ok nmX3 hown hK hP hD hS 0 rfl rfl 10 (by decide) fl33 rfl rfl rfl rfl rfl (Nat.le_of_ble_eq_true rfl) dX3_poke_30 rfl (fun H locs hP hD hS => ?_)
      refine lv_aload_n hx hb dX3_poke_33 rfl (lv_at hl 0 rfl) ?_
      refine k_get (ci := 4) (T := TX3) (N := 13) (C := RX3) hx hb hts inX3 hown hK hP 0 rfl rfl 10 (by decide) fl33 rfl rfl dX3_poke_34 ?_
      refine lv_if_eq (tgt := 42) hx hb dX3_poke_37 (by decide) (fun c3 => ?_) (fun c3 => ?_)
      · exact absurd c3 (by decide)
      · refine lv_iconst (v := 0) hx hb dX3_poke_40 (by decide) ?_
        exact k_iretW hx hb hr hlocks hP hS rfl (by simp only [thPoke, if_pos hib, if_neg c1, if_pos c2, if_neg c3]) dX3_poke_41
  · refine lv_iconst (v := 1) hx hb dX3_poke_12 (by decide) ?_
    refine lv_goto (tgt := 30) hx hb dX3_poke_13 (by decide) ?_
    refine k_putf (ws' := [(h, .inr (4, [.int (nI (32 * n)), .ref d1, .ref s1, .int bk2, .int up2, .ref i1, .ref b1, .int (nI R), .int (nI S), .int wr, .int 1, .ref t1, .int (nI T)])), (d1, .inl (cI, 2048, .inl fD)), (s1, .inl (cI, 2048, .inl fS)), (i1, .inl (cI, 2080, .inl fI)), (b1, .inl (cI, 240, .inl fB)), (t1, .inl (cI, 20, .inl fT))]) (ci := 4) (T := TX3) (N := 13) (C := RX3) (ty := .int) hx hb hts inX3 tyX3 tyX3_ok nmX3 hown hK hP hD hS 0 rfl rfl 10 (by decide) fl33 rfl rfl rfl rfl rfl (Nat.le_of_ble_eq_true rfl) dX3_poke_30 rfl (fun H locs hP hD hS => ?_)
    refine lv_aload_n hx hb dX3_poke_33 rfl (lv_at hl 0 rfl) ?_
    refine k_get (ci := 4) (T := TX3) (N := 13) (C := RX3) hx hb hts inX3 hown hK hP 0 rfl rfl 10 (by decide) fl33 rfl rfl dX3_poke_34 ?_
    refine lv_if_eq (tgt := 42) hx hb dX3_poke_37 (by decide) (fun c4 => ?_) (fun c4 => ?_)
    · exact absurd c4 (by decide)
    · refine lv_iconst (v := 0) hx hb dX3_poke_40 (by decide) ?_
      exact k_iretW hx hb hr hlocks hP hS rfl (by simp only [thPoke, if_pos hib, if_pos c1, if_neg c4]) dX3_poke_41
set_option maxHeartbeats 4000000 in
set_option maxRecDepth 100000 in
theorem m_X3_byteOf (l : Launch) (dC : Nat → ClassId) (dI : Nat → Nat → Nat) (cI cJ : ClassId) (h : Nat) (d1 : Nat) (s1 : Nat) (i1 : Nat) (b1 : Nat) (t1 : Nat) (fD : Nat → Int32) (fS : Nat → Int32) (fI : Nat → Int32) (fB : Nat → Int32) (fT : Nat → Int32) (n : Nat) (R : Nat) (S : Nat) (T : Nat) (bk2 : Int32) (up2 : Int32) (wr : Int32) (th : Int32) (sc : Nat) (ix : Nat) (hn : n ≤ 64) (hsc : sc < n) (hix : ix < 32) (hib : ¬ isB n (nI sc) (nI ix) = 0) : cW l yX3_byteOf wsX3_byteOf ({ frames := 2, cells := 0, slots := 0, locals := 44 }) dC dI cI cJ [(h, .inr (4, [.int (nI (32 * n)), .ref d1, .ref s1, .int bk2, .int up2, .ref i1, .ref b1, .int (nI R), .int (nI S), .int wr, .int th, .ref t1, .int (nI T)])), (d1, .inl (cI, 2048, .inl fD)), (s1, .inl (cI, 2048, .inl fS)), (i1, .inl (cI, 2080, .inl fI)), (b1, .inl (cI, 240, .inl fB)), (t1, .inl (cI, 20, .inl fT))] [(h, .inr (4, [.int (nI (32 * n)), .ref d1, .ref s1, .int bk2, .int up2, .ref i1, .ref b1, .int (nI R), .int (nI S), .int wr, .int 0, .ref t1, .int (nI T)])), (d1, .inl (cI, 2048, .inl fD)), (s1, .inl (cI, 2048, .inl fS)), (i1, .inl (cI, 2080, .inl fI)), (b1, .inl (cI, 240, .inl fB)), (t1, .inl (cI, 20, .inl fT))] [h, d1, s1, i1, b1, t1] [.ref h, .int (nI sc), .int (nI ix)] (some (.int (fD (32 * sc + ix)))) := by
  refine Met.ofW (cc := cX3_byteOf) (maxL := 3) (ret := (some .int)) (by decide) rfl ?_
  intro p e s m args below meth c s₁ B hml hv
  obtain ⟨rfl, hP, hK, hD0⟩ := hv
  have hx := B.exec
  have hb := B.bytes
  have hr := B.returns
  have hts := atoms_spec (ws := wsX3_byteOf) B.pre
  have hown : s.vm.findClass RX3 = some m.cls := findClass_of_methodNamed B.named
  have hlocks := B.notSynchronized
  have inX3 : ∀ w ∈ wsX30, w ∈ wsX3_byteOf := fun w h => (List.mem_cons_of_mem _ (List.mem_append_right _ h))
  have fl7 := hts (.fieldLink RX3 7 "StockLogModel" "disk" "[I") (by decide +kernel)
  have fl33 := hts (.fieldLink RX3 33 "StockLogModel" "thrown" "I") (by decide +kernel)
  have hD : va_D (mA [h, d1, s1, i1, b1, t1]) [(h, .inr (4, [.int (nI (32 * n)), .ref d1, .ref s1, .int bk2, .int up2, .ref i1, .ref b1, .int (nI R), .int (nI S), .int wr, .int th, .ref t1, .int (nI T)])), (d1, .inl (cI, 2048, .inl fD)), (s1, .inl (cI, 2048, .inl fS)), (i1, .inl (cI, 2080, .inl fI)), (b1, .inl (cI, 240, .inl fB)), (t1, .inl (cI, 20, .inl fT))] := k_Dw hD0 rfl
  have hS : va_S (mA [h, d1, s1, i1, b1, t1]) s.heap s.heap [] := va_S.rf
  have hl := lv_entry ([.ref h, .int (nI sc), .int (nI ix)]) (n := 3) (Nat.le_of_ble_eq_true rfl)
  rw [lg_entry_eq]
  generalize (lg_sl ([.ref h, .int (nI sc), .int (nI ix)]) ++ List.replicate (3 - (lg_sl ([.ref h, .int (nI sc), .int (nI ix)])).length) Slot.unset).toArray = ls at hl ⊢
  have hl : lv_has ls 3 [(0, .ref h), (1, .int (nI sc)), (2, .int (nI ix))] := hl
  refine lv_aload_n hx hb dX3_byteOf_0 rfl (lv_at hl 0 rfl) ?_
  refine lv_aload_n hx hb dX3_byteOf_1 rfl (lv_at hl 0 rfl) ?_
  refine lv_iload_n hx hb dX3_byteOf_2 rfl (lv_at hl 1 rfl) ?_
  refine lv_iload_n hx hb dX3_byteOf_3 rfl (lv_at hl 2 rfl) ?_
  refine k_afP (va_runV (rest := [.ref h]) ⟨hx, hb, hml, hown, hts⟩ (m_X3_isByte l dC dI cI cJ h d1 s1 i1 b1 t1 fD fS fI fB fT n R S T bk2 up2 wr th (nI sc) (nI ix) (by first | assumption | decide)) (cwV 2 hts gX3_byteOf_X3_isByte rfl rfl rfl hdv_X3_isByte ⟨Nat.le_of_ble_eq_true rfl, Nat.le_of_ble_eq_true rfl⟩) (k_preVP hK hP [0, 1, 2, 3, 4, 5] rfl 0 rfl rfl) rfl rfl hl.1 rfl (lv_room (Nat.le_of_ble_eq_true rfl)) dX3_byteOf_4 ⟨Nat.le_of_ble_eq_true rfl, Nat.le_of_ble_eq_true rfl⟩) ?_
  refine lv_if_eq (tgt := 14) hx hb dX3_byteOf_7 (by decide) (fun c1 => ?_) (fun c1 => ?_)
  · exact absurd c1 hib
  · refine lv_iconst (v := 0) hx hb dX3_byteOf_10 (by decide) ?_
    refine lv_goto (tgt := 15) hx hb dX3_byteOf_11 (by decide) ?_
    refine k_putf (ws' := [(h, .inr (4, [.int (nI (32 * n)), .ref d1, .ref s1, .int bk2, .int up2, .ref i1, .ref b1, .int (nI R), .int (nI S), .int wr, .int 0, .ref t1, .int (nI T)])), (d1, .inl (cI, 2048, .inl fD)), (s1, .inl (cI, 2048, .inl fS)), (i1, .inl (cI, 2080, .inl fI)), (b1, .inl (cI, 240, .inl fB)), (t1, .inl (cI, 20, .inl fT))]) (ci := 4) (T := TX3) (N := 13) (C := RX3) (ty := .int) hx hb hts inX3 tyX3 tyX3_ok nmX3 hown hK hP hD hS 0 rfl rfl 10 (by decide) fl33 rfl rfl rfl rfl rfl (Nat.le_of_ble_eq_true rfl) dX3_byteOf_15 rfl (fun H locs hP hD hS => ?_)
    refine lv_aload_n hx hb dX3_byteOf_18 rfl (lv_at hl 0 rfl) ?_
    refine k_get (ci := 4) (T := TX3) (N := 13) (C := RX3) hx hb hts inX3 hown hK hP 0 rfl rfl 10 (by decide) fl33 rfl rfl dX3_byteOf_19 ?_
    refine lv_if_eq (tgt := 29) hx hb dX3_byteOf_22 (by decide) (fun c2 => ?_) (fun c2 => ?_)
    · refine lv_aload_n hx hb dX3_byteOf_29 rfl (lv_at hl 0 rfl) ?_
      refine k_get (ci := 4) (T := TX3) (N := 13) (C := RX3) hx hb hts inX3 hown hK hP 0 rfl rfl 1 (by decide) fl7 rfl rfl dX3_byteOf_30 ?_
      refine lv_bipush (v := 32) hx hb dX3_byteOf_33 (by decide) ?_
      refine lv_iload_n hx hb dX3_byteOf_35 rfl (lv_at hl 1 rfl) ?_
      refine lv_imul hx hb dX3_byteOf_36 ?_
      refine k_nrm (y := nI (32 * sc)) (pk_mul 32 sc) ?_
      refine lv_iload_n hx hb dX3_byteOf_37 rfl (lv_at hl 2 rfl) ?_
      refine lv_iadd hx hb dX3_byteOf_38 ?_
      refine k_nrm (y := nI ((32 * sc) + ix)) (nI_add (32 * sc) ix) ?_
      refine k_ialdn (i := (32 * sc) + ix) hx hb hK hP 1 rfl (by omega) (by decide) dX3_byteOf_39 ?_
      exact k_iretW hx hb hr hlocks hP hS rfl rfl dX3_byteOf_40
    · exact absurd c2 (by decide)
set_option maxHeartbeats 4000000 in
set_option maxRecDepth 100000 in
theorem m_X3_byteOfX (l : Launch) (dC : Nat → ClassId) (dI : Nat → Nat → Nat) (cI cJ : ClassId) (h : Nat) (d1 : Nat) (s1 : Nat) (i1 : Nat) (b1 : Nat) (t1 : Nat) (fD : Nat → Int32) (fS : Nat → Int32) (fI : Nat → Int32) (fB : Nat → Int32) (fT : Nat → Int32) (n : Nat) (R : Nat) (S : Nat) (T : Nat) (bk2 : Int32) (up2 : Int32) (wr : Int32) (th : Int32) (sector : Int32) (i : Int32) (hn : n ≤ 64) (hib : isB n sector i = 0) : cW l yX3_byteOf wsX3_byteOf ({ frames := 2, cells := 0, slots := 0, locals := 44 }) dC dI cI cJ [(h, .inr (4, [.int (nI (32 * n)), .ref d1, .ref s1, .int bk2, .int up2, .ref i1, .ref b1, .int (nI R), .int (nI S), .int wr, .int th, .ref t1, .int (nI T)])), (d1, .inl (cI, 2048, .inl fD)), (s1, .inl (cI, 2048, .inl fS)), (i1, .inl (cI, 2080, .inl fI)), (b1, .inl (cI, 240, .inl fB)), (t1, .inl (cI, 20, .inl fT))] [(h, .inr (4, [.int (nI (32 * n)), .ref d1, .ref s1, .int bk2, .int up2, .ref i1, .ref b1, .int (nI R), .int (nI S), .int wr, .int 1, .ref t1, .int (nI T)])), (d1, .inl (cI, 2048, .inl fD)), (s1, .inl (cI, 2048, .inl fS)), (i1, .inl (cI, 2080, .inl fI)), (b1, .inl (cI, 240, .inl fB)), (t1, .inl (cI, 20, .inl fT))] [h, d1, s1, i1, b1, t1] [.ref h, .int sector, .int i] (some (.int 0)) := by
  refine Met.ofW (cc := cX3_byteOf) (maxL := 3) (ret := (some .int)) (by decide) rfl ?_
  intro p e s m args below meth c s₁ B hml hv
  obtain ⟨rfl, hP, hK, hD0⟩ := hv
  have hx := B.exec
  have hb := B.bytes
  have hr := B.returns
  have hts := atoms_spec (ws := wsX3_byteOf) B.pre
  have hown : s.vm.findClass RX3 = some m.cls := findClass_of_methodNamed B.named
  have hlocks := B.notSynchronized
  have inX3 : ∀ w ∈ wsX30, w ∈ wsX3_byteOf := fun w h => (List.mem_cons_of_mem _ (List.mem_append_right _ h))
  have fl33 := hts (.fieldLink RX3 33 "StockLogModel" "thrown" "I") (by decide +kernel)
  have hD : va_D (mA [h, d1, s1, i1, b1, t1]) [(h, .inr (4, [.int (nI (32 * n)), .ref d1, .ref s1, .int bk2, .int up2, .ref i1, .ref b1, .int (nI R), .int (nI S), .int wr, .int th, .ref t1, .int (nI T)])), (d1, .inl (cI, 2048, .inl fD)), (s1, .inl (cI, 2048, .inl fS)), (i1, .inl (cI, 2080, .inl fI)), (b1, .inl (cI, 240, .inl fB)), (t1, .inl (cI, 20, .inl fT))] := k_Dw hD0 rfl
  have hS : va_S (mA [h, d1, s1, i1, b1, t1]) s.heap s.heap [] := va_S.rf
  have hl := lv_entry ([.ref h, .int sector, .int i]) (n := 3) (Nat.le_of_ble_eq_true rfl)
  rw [lg_entry_eq]
  generalize (lg_sl ([.ref h, .int sector, .int i]) ++ List.replicate (3 - (lg_sl ([.ref h, .int sector, .int i])).length) Slot.unset).toArray = ls at hl ⊢
  have hl : lv_has ls 3 [(0, .ref h), (1, .int sector), (2, .int i)] := hl
  refine lv_aload_n hx hb dX3_byteOf_0 rfl (lv_at hl 0 rfl) ?_
  refine lv_aload_n hx hb dX3_byteOf_1 rfl (lv_at hl 0 rfl) ?_
  refine lv_iload_n hx hb dX3_byteOf_2 rfl (lv_at hl 1 rfl) ?_
  refine lv_iload_n hx hb dX3_byteOf_3 rfl (lv_at hl 2 rfl) ?_
  refine k_afP (va_runV (rest := [.ref h]) ⟨hx, hb, hml, hown, hts⟩ (m_X3_isByte l dC dI cI cJ h d1 s1 i1 b1 t1 fD fS fI fB fT n R S T bk2 up2 wr th sector i (by first | assumption | decide)) (cwV 2 hts gX3_byteOf_X3_isByte rfl rfl rfl hdv_X3_isByte ⟨Nat.le_of_ble_eq_true rfl, Nat.le_of_ble_eq_true rfl⟩) (k_preVP hK hP [0, 1, 2, 3, 4, 5] rfl 0 rfl rfl) rfl rfl hl.1 rfl (lv_room (Nat.le_of_ble_eq_true rfl)) dX3_byteOf_4 ⟨Nat.le_of_ble_eq_true rfl, Nat.le_of_ble_eq_true rfl⟩) ?_
  refine lv_if_eq (tgt := 14) hx hb dX3_byteOf_7 (by decide) (fun c1 => ?_) (fun c1 => ?_)
  · refine lv_iconst (v := 1) hx hb dX3_byteOf_14 (by decide) ?_
    refine k_putf (ws' := [(h, .inr (4, [.int (nI (32 * n)), .ref d1, .ref s1, .int bk2, .int up2, .ref i1, .ref b1, .int (nI R), .int (nI S), .int wr, .int 1, .ref t1, .int (nI T)])), (d1, .inl (cI, 2048, .inl fD)), (s1, .inl (cI, 2048, .inl fS)), (i1, .inl (cI, 2080, .inl fI)), (b1, .inl (cI, 240, .inl fB)), (t1, .inl (cI, 20, .inl fT))]) (ci := 4) (T := TX3) (N := 13) (C := RX3) (ty := .int) hx hb hts inX3 tyX3 tyX3_ok nmX3 hown hK hP hD hS 0 rfl rfl 10 (by decide) fl33 rfl rfl rfl rfl rfl (Nat.le_of_ble_eq_true rfl) dX3_byteOf_15 rfl (fun H locs hP hD hS => ?_)
    refine lv_aload_n hx hb dX3_byteOf_18 rfl (lv_at hl 0 rfl) ?_
    refine k_get (ci := 4) (T := TX3) (N := 13) (C := RX3) hx hb hts inX3 hown hK hP 0 rfl rfl 10 (by decide) fl33 rfl rfl dX3_byteOf_19 ?_
    refine lv_if_eq (tgt := 29) hx hb dX3_byteOf_22 (by decide) (fun c2 => ?_) (fun c2 => ?_)
    · exact absurd c2 (by decide)
    · refine lv_iconst (v := 0) hx hb dX3_byteOf_25 (by decide) ?_
      refine lv_goto (tgt := 40) hx hb dX3_byteOf_26 (by decide) ?_
      exact k_iretW hx hb hr hlocks hP hS rfl rfl dX3_byteOf_40
  · exact absurd hib c1
set_option maxHeartbeats 4000000 in
set_option maxRecDepth 100000 in
theorem m_X3_backup (l : Launch) (dC : Nat → ClassId) (dI : Nat → Nat → Nat) (cI cJ : ClassId) (h : Nat) (d1 : Nat) (s1 : Nat) (i1 : Nat) (b1 : Nat) (t1 : Nat) (fD : Nat → Int32) (fS : Nat → Int32) (fI : Nat → Int32) (fB : Nat → Int32) (fT : Nat → Int32) (n : Nat) (R : Nat) (S : Nat) (T : Nat) (bk2 : Int32) (up2 : Int32) (wr : Int32) (th : Int32) (hn : n ≤ 64) : cW l yX3_backup wsX3_backup ({ frames := 0, cells := 0, slots := 0, locals := 0 }) dC dI cI cJ [(h, .inr (4, [.int (nI (32 * n)), .ref d1, .ref s1, .int bk2, .int up2, .ref i1, .ref b1, .int (nI R), .int (nI S), .int wr, .int th, .ref t1, .int (nI T)])), (d1, .inl (cI, 2048, .inl fD)), (s1, .inl (cI, 2048, .inl fS)), (i1, .inl (cI, 2080, .inl fI)), (b1, .inl (cI, 240, .inl fB)), (t1, .inl (cI, 20, .inl fT))] [(h, .inr (4, [.int (nI (32 * n)), .ref d1, .ref s1, .int (if thUp up2 = 0 then 1 else bk2), .int up2, .ref i1, .ref b1, .int (nI R), .int (nI S), .int wr, .int (thUp up2), .ref t1, .int (nI T)])), (d1, .inl (cI, 2048, .inl fD)), (s1, .inl (cI, 2048, .inl (if thUp up2 = 0 then cpN fS fD 0 (32 * n) else fS))), (i1, .inl (cI, 2080, .inl fI)), (b1, .inl (cI, 240, .inl fB)), (t1, .inl (cI, 20, .inl fT))] [h, d1, s1, i1, b1, t1] [.ref h] (some (.int (if thUp up2 = 0 then nI S else 0))) := by
  refine Met.ofW (cc := cX3_backup) (maxL := 2) (ret := (some .int)) (by decide) rfl ?_
  intro p e s m args below meth c s₁ B hml hv
  obtain ⟨rfl, hP, hK, hD0⟩ := hv
  have hx := B.exec
  have hb := B.bytes
  have hr := B.returns
  have hts := atoms_spec (ws := wsX3_backup) B.pre
  have hown : s.vm.findClass RX3 = some m.cls := findClass_of_methodNamed B.named
  have hlocks := B.notSynchronized
  have inX3 : ∀ w ∈ wsX30, w ∈ wsX3_backup := fun w h => (List.mem_cons_of_mem _ (List.mem_append_right _ h))
  have fl7 := hts (.fieldLink RX3 7 "StockLogModel" "disk" "[I") (by decide +kernel)
  have fl13 := hts (.fieldLink RX3 13 "StockLogModel" "saved" "[I") (by decide +kernel)
  have fl16 := hts (.fieldLink RX3 16 "StockLogModel" "up" "Z") (by decide +kernel)
  have fl29 := hts (.fieldLink RX3 29 "StockLogModel" "size" "I") (by decide +kernel)
  have fl33 := hts (.fieldLink RX3 33 "StockLogModel" "thrown" "I") (by decide +kernel)
  have fl70 := hts (.fieldLink RX3 70 "StockLogModel" "synced" "I") (by decide +kernel)
  have fl93 := hts (.fieldLink RX3 93 "StockLogModel" "hasBackup" "Z") (by decide +kernel)
  have hD : va_D (mA [h, d1, s1, i1, b1, t1]) [(h, .inr (4, [.int (nI (32 * n)), .ref d1, .ref s1, .int bk2, .int up2, .ref i1, .ref b1, .int (nI R), .int (nI S), .int wr, .int th, .ref t1, .int (nI T)])), (d1, .inl (cI, 2048, .inl fD)), (s1, .inl (cI, 2048, .inl fS)), (i1, .inl (cI, 2080, .inl fI)), (b1, .inl (cI, 240, .inl fB)), (t1, .inl (cI, 20, .inl fT))] := k_Dw hD0 rfl
  have hS : va_S (mA [h, d1, s1, i1, b1, t1]) s.heap s.heap [] := va_S.rf
  have hl := lv_entry ([.ref h]) (n := 2) (Nat.le_of_ble_eq_true rfl)
  rw [lg_entry_eq]
  generalize (lg_sl ([.ref h]) ++ List.replicate (2 - (lg_sl ([.ref h])).length) Slot.unset).toArray = ls at hl ⊢
  have hl : lv_has ls 2 [(0, .ref h)] := hl
  refine lv_aload_n hx hb dX3_backup_0 rfl (lv_at hl 0 rfl) ?_
  refine lv_aload_n hx hb dX3_backup_1 rfl (lv_at hl 0 rfl) ?_
  refine k_get (ci := 4) (T := TX3) (N := 13) (C := RX3) hx hb hts inX3 hown hK hP 0 rfl rfl 4 (by decide) fl16 rfl rfl dX3_backup_2 ?_
  refine lv_if_eq (tgt := 12) hx hb dX3_backup_5 (by decide) (fun c1 => ?_) (fun c1 => ?_)
  · refine lv_iconst (v := 1) hx hb dX3_backup_12 (by decide) ?_
    refine k_putf (ws' := [(h, .inr (4, [.int (nI (32 * n)), .ref d1, .ref s1, .int bk2, .int up2, .ref i1, .ref b1, .int (nI R), .int (nI S), .int wr, .int 1, .ref t1, .int (nI T)])), (d1, .inl (cI, 2048, .inl fD)), (s1, .inl (cI, 2048, .inl fS)), (i1, .inl (cI, 2080, .inl fI)), (b1, .inl (cI, 240, .inl fB)), (t1, .inl (cI, 20, .inl fT))]) (ci := 4) (T := TX3) (N := 13) (C := RX3) (ty := .int) hx hb hts inX3 tyX3 tyX3_ok nmX3 hown hK hP hD hS 0 rfl rfl 10 (by decide) fl33 rfl rfl rfl rfl rfl (Nat.le_of_ble_eq_true rfl) dX3_backup_13 rfl (fun H locs hP hD hS => ?_)
    refine lv_aload_n hx hb dX3_backup_16 rfl (lv_at hl 0 rfl) ?_
    refine k_get (ci := 4) (T := TX3) (N := 13) (C := RX3) hx hb hts inX3 hown hK hP 0 rfl rfl 10 (by decide) fl33 rfl rfl dX3_backup_17 ?_
    refine lv_if_eq (tgt := 25) hx hb dX3_backup_20 (by decide) (fun c2 => ?_) (fun c2 => ?_)
    · exact absurd c2 (by decide)
    · refine lv_iconst (v := 0) hx hb dX3_backup_23 (by decide) ?_
      exact k_iretW hx hb hr hlocks hP hS (by have hth : thUp up2 = 1 := (by simp only [thUp, if_pos c1, if_neg c2]); (simp only [hth, il0, il1, il2, il3, if_true, if_false]) <;> rfl) (by have hth : thUp up2 = 1 := (by simp only [thUp, if_pos c1, if_neg c2]); (simp only [hth, il0, il1, il2, il3, if_true, if_false]) <;> rfl) dX3_backup_24
  · refine lv_iconst (v := 0) hx hb dX3_backup_8 (by decide) ?_
    refine lv_goto (tgt := 13) hx hb dX3_backup_9 (by decide) ?_
    refine k_putf (ws' := [(h, .inr (4, [.int (nI (32 * n)), .ref d1, .ref s1, .int bk2, .int up2, .ref i1, .ref b1, .int (nI R), .int (nI S), .int wr, .int 0, .ref t1, .int (nI T)])), (d1, .inl (cI, 2048, .inl fD)), (s1, .inl (cI, 2048, .inl fS)), (i1, .inl (cI, 2080, .inl fI)), (b1, .inl (cI, 240, .inl fB)), (t1, .inl (cI, 20, .inl fT))]) (ci := 4) (T := TX3) (N := 13) (C := RX3) (ty := .int) hx hb hts inX3 tyX3 tyX3_ok nmX3 hown hK hP hD hS 0 rfl rfl 10 (by decide) fl33 rfl rfl rfl rfl rfl (Nat.le_of_ble_eq_true rfl) dX3_backup_13 rfl (fun H locs hP hD hS => ?_)
    refine lv_aload_n hx hb dX3_backup_16 rfl (lv_at hl 0 rfl) ?_
    refine k_get (ci := 4) (T := TX3) (N := 13) (C := RX3) hx hb hts inX3 hown hK hP 0 rfl rfl 10 (by decide) fl33 rfl rfl dX3_backup_17 ?_
    refine lv_if_eq (tgt := 25) hx hb dX3_backup_20 (by decide) (fun c3 => ?_) (fun c3 => ?_)
    · refine lv_iconst (v := 0) hx hb dX3_backup_25 (by decide) ?_
      refine lv_istore_n (lv' := [(1, .int 0), (0, .ref h)]) hx hb dX3_backup_26 rfl hl (by decide) rfl (fun ls hl => ?_)
      have loop27 : ∀ (n9 : Nat) (k : Nat) (x : Nat → Int32) (H : Heap) (locs : List Loc) (ls : Array Slot), (x = cpN fS fD 0 k) → (k ≤ 32 * n) → 32 * n - k < n9 → va_P (dC, dI) vwCl [(h, .inr (4, [.int (nI (32 * n)), .ref d1, .ref s1, .int bk2, .int up2, .ref i1, .ref b1, .int (nI R), .int (nI S), .int wr, .int 0, .ref t1, .int (nI T)])), (d1, .inl (cI, 2048, .inl fD)), (s1, .inl (cI, 2048, .inl x)), (i1, .inl (cI, 2080, .inl fI)), (b1, .inl (cI, 240, .inl fB)), (t1, .inl (cI, 20, .inl fT))] H → va_D (mA [h, d1, s1, i1, b1, t1]) [(h, .inr (4, [.int (nI (32 * n)), .ref d1, .ref s1, .int bk2, .int up2, .ref i1, .ref b1, .int (nI R), .int (nI S), .int wr, .int 0, .ref t1, .int (nI T)])), (d1, .inl (cI, 2048, .inl fD)), (s1, .inl (cI, 2048, .inl x)), (i1, .inl (cI, 2080, .inl fI)), (b1, .inl (cI, 240, .inl fB)), (t1, .inl (cI, 20, .inl fT))] → va_S (mA [h, d1, s1, i1, b1, t1]) s.heap H locs → lv_has ls 2 [(1, .int (nI k)), (0, .ref h)] → W p l e (headSpec wsX3_backup ({ frames := 0, cells := 0, slots := 0, locals := 0 })).room s m ([.ref h] : List Value).toArray below meth c H locs 0 0 (MQ below (mQ dC dI [(h, .inr (4, [.int (nI (32 * n)), .ref d1, .ref s1, .int (if thUp up2 = 0 then 1 else bk2), .int up2, .ref i1, .ref b1, .int (nI R), .int (nI S), .int wr, .int (thUp up2), .ref t1, .int (nI T)])), (d1, .inl (cI, 2048, .inl fD)), (s1, .inl (cI, 2048, .inl (if thUp up2 = 0 then cpN fS fD 0 (32 * n) else fS))), (i1, .inl (cI, 2080, .inl fI)), (b1, .inl (cI, 240, .inl fB)), (t1, .inl (cI, 20, .inl fT))] [h, d1, s1, i1, b1, t1] (some (.int (if thUp up2 = 0 then nI S else 0)))) ([.ref h] : List Value).toArray s 0 0 (mA [h, d1, s1, i1, b1, t1])) (F0 m 27 ls []) := by
        intro n9
        induction n9 with
        | zero => intro k x H locs ls hx9 hk2 hm; exact absurd hm (Nat.not_lt_zero _)
        | succ n9 ih =>
          intro k x H locs ls hx9 hk2 hm hP hD hS hl
          refine lv_iload_n hx hb dX3_backup_27 rfl (lv_at hl 0 rfl) ?_
          refine lv_aload_n hx hb dX3_backup_28 rfl (lv_at hl 1 rfl) ?_
          refine k_get (ci := 4) (T := TX3) (N := 13) (C := RX3) hx hb hts inX3 hown hK hP 0 rfl rfl 0 (by decide) fl29 rfl rfl dX3_backup_29 ?_
          refine lv_icmp_ge (tgt := 53) hx hb dX3_backup_32 (by decide) (fun c4 => ?_) (fun c4 => ?_)
          · have nc4 : (32 * n) ≤ k := (nI_leI (a := 32 * n) (b := k) (by omega) (by omega)).mp c4
            refine lv_aload_n hx hb dX3_backup_53 rfl (lv_at hl 1 rfl) ?_
            refine lv_iconst (v := 1) hx hb dX3_backup_54 (by decide) ?_
            refine k_putf (ws' := [(h, .inr (4, [.int (nI (32 * n)), .ref d1, .ref s1, .int 1, .int up2, .ref i1, .ref b1, .int (nI R), .int (nI S), .int wr, .int 0, .ref t1, .int (nI T)])), (d1, .inl (cI, 2048, .inl fD)), (s1, .inl (cI, 2048, .inl x)), (i1, .inl (cI, 2080, .inl fI)), (b1, .inl (cI, 240, .inl fB)), (t1, .inl (cI, 20, .inl fT))]) (ci := 4) (T := TX3) (N := 13) (C := RX3) (ty := .boolean) hx hb hts inX3 tyX3 tyX3_ok nmX3 hown hK hP hD hS 0 rfl rfl 3 (by decide) fl93 rfl rfl rfl rfl rfl (Nat.le_of_ble_eq_true rfl) dX3_backup_55 rfl (fun H locs hP hD hS => ?_)
            refine lv_aload_n hx hb dX3_backup_58 rfl (lv_at hl 1 rfl) ?_
            refine k_get (ci := 4) (T := TX3) (N := 13) (C := RX3) hx hb hts inX3 hown hK hP 0 rfl rfl 8 (by decide) fl70 rfl rfl dX3_backup_59 ?_
            exact k_iretW hx hb hr hlocks hP hS (by have hth : thUp up2 = 0 := (by simp only [thUp, if_neg c1, if_pos c3, if_pos c4]); (simp only [hth, il0, il1, il2, il3, if_true, if_false]) <;> (rfl)) (by have hth : thUp up2 = 0 := (by simp only [thUp, if_neg c1, if_pos c3, if_pos c4]); (simp only [hth, il0, il1, il2, il3, if_true, if_false]) <;> (rw [hx9, show k = 32 * n by omega])) dX3_backup_62
          · have nc4 : ¬ (32 * n) ≤ k := fun h9 => c4 ((nI_leI (a := 32 * n) (b := k) (by omega) (by omega)).mpr h9)
            refine lv_aload_n hx hb dX3_backup_35 rfl (lv_at hl 1 rfl) ?_
            refine k_get (ci := 4) (T := TX3) (N := 13) (C := RX3) hx hb hts inX3 hown hK hP 0 rfl rfl 2 (by decide) fl13 rfl rfl dX3_backup_36 ?_
            refine lv_iload_n hx hb dX3_backup_39 rfl (lv_at hl 0 rfl) ?_
            refine lv_aload_n hx hb dX3_backup_40 rfl (lv_at hl 1 rfl) ?_
            refine k_get (ci := 4) (T := TX3) (N := 13) (C := RX3) hx hb hts inX3 hown hK hP 0 rfl rfl 1 (by decide) fl7 rfl rfl dX3_backup_41 ?_
            refine lv_iload_n hx hb dX3_backup_44 rfl (lv_at hl 0 rfl) ?_
            refine k_ialdn (i := k) hx hb hK hP 1 rfl (by omega) (by decide) dX3_backup_45 ?_
            refine k_iastn (ws' := [(h, .inr (4, [.int (nI (32 * n)), .ref d1, .ref s1, .int bk2, .int up2, .ref i1, .ref b1, .int (nI R), .int (nI S), .int wr, .int 0, .ref t1, .int (nI T)])), (d1, .inl (cI, 2048, .inl fD)), (s1, .inl (cI, 2048, .inl (upd x k (fD k)))), (i1, .inl (cI, 2080, .inl fI)), (b1, .inl (cI, 240, .inl fB)), (t1, .inl (cI, 20, .inl fT))]) (j := k) hx hb hK hP hD hS 2 rfl rfl (by omega) (by decide) dX3_backup_46 rfl (fun H locs hP hD hS => ?_)
            refine lv_iinc (v := nI (k + 1)) (lv' := [(1, .int (nI (k + 1))), (0, .ref h)]) hx hb dX3_backup_47 hl (k := 0) rfl (nI_1 k) (by decide) rfl (fun ls hl => ?_)
            refine lv_goto (tgt := 27) hx hb dX3_backup_50 (by decide) ?_
            exact ih (k + 1) (upd x k (fD k)) _ _ ls (by rw [cpN, ← hx9, Nat.zero_add]) (by omega) (by omega) hP hD hS (lv_sub hl [0, 1] rfl)
      exact loop27 _ 0 fS _ _ ls rfl (Nat.zero_le _) (Nat.lt_succ_self _) hP hD hS (lv_sub hl [0, 1] rfl)
    · exact absurd c3 (by decide)
set_option maxHeartbeats 4000000 in
set_option maxRecDepth 100000 in
theorem m_X3_restore (l : Launch) (dC : Nat → ClassId) (dI : Nat → Nat → Nat) (cI cJ : ClassId) (h : Nat) (d1 : Nat) (s1 : Nat) (i1 : Nat) (b1 : Nat) (t1 : Nat) (fD : Nat → Int32) (fS : Nat → Int32) (fI : Nat → Int32) (fB : Nat → Int32) (fT : Nat → Int32) (n : Nat) (R : Nat) (S : Nat) (T : Nat) (bk2 : Int32) (up2 : Int32) (wr : Int32) (th : Int32) (Bg : Nat → Nat) (Db : Nat → Nat) (hn : n ≤ 64) (hDb : ∀ j, j < 2048 → (cpN fD fS 0 (32 * n)) j = nI (Db j) ∧ Db j ≤ 255) (hB0 : fB 0 = nI (Bg 0)) (hB00 : Bg 0 = 0) : cW l yX3_restore wsX3_restore ({ frames := 5, cells := 0, slots := 0, locals := 117 }) dC dI cI cJ [(h, .inr (4, [.int (nI (32 * n)), .ref d1, .ref s1, .int bk2, .int up2, .ref i1, .ref b1, .int (nI R), .int (nI S), .int wr, .int th, .ref t1, .int (nI T)])), (d1, .inl (cI, 2048, .inl fD)), (s1, .inl (cI, 2048, .inl fS)), (i1, .inl (cI, 2080, .inl fI)), (b1, .inl (cI, 240, .inl fB)), (t1, .inl (cI, 20, .inl fT))] [(h, .inr (4, [.int (nI (32 * n)), .ref d1, .ref s1, .int bk2, .int (if thUp bk2 = 0 then 1 else up2), .ref i1, .ref b1, .int (nI (if thUp bk2 = 0 then (rdN n (cpN fD fS 0 (32 * n)) Db (32 * n + 1) (fI, fB, Bg, 0, 0)).1.2.2.2.1 else R)), .int (nI (if thUp bk2 = 0 then (rdN n (cpN fD fS 0 (32 * n)) Db (32 * n + 1) (fI, fB, Bg, 0, 0)).1.2.2.2.1 else S)), .int (if thUp bk2 = 0 then (if (rdN n (cpN fD fS 0 (32 * n)) Db (32 * n + 1) (fI, fB, Bg, 0, 0)).2 = 7 then 0 else (rdN n (cpN fD fS 0 (32 * n)) Db (32 * n + 1) (fI, fB, Bg, 0, 0)).2) else wr), .int (thUp bk2), .ref t1, .int (nI (if thUp bk2 = 0 then 0 else T))])), (d1, .inl (cI, 2048, .inl (if thUp bk2 = 0 then cpN fD fS 0 (32 * n) else fD))), (s1, .inl (cI, 2048, .inl fS)), (i1, .inl (cI, 2080, .inl (if thUp bk2 = 0 then (rdN n (cpN fD fS 0 (32 * n)) Db (32 * n + 1) (fI, fB, Bg, 0, 0)).1.1 else fI))), (b1, .inl (cI, 240, .inl (if thUp bk2 = 0 then (rdN n (cpN fD fS 0 (32 * n)) Db (32 * n + 1) (fI, fB, Bg, 0, 0)).1.2.1 else fB))), (t1, .inl (cI, 20, .inl fT))] [h, d1, s1, i1, b1, t1] [.ref h] (some (.int (if thUp bk2 = 0 then nI (rdN n (cpN fD fS 0 (32 * n)) Db (32 * n + 1) (fI, fB, Bg, 0, 0)).1.2.2.2.1 else 0))) := by
  refine Met.ofW (cc := cX3_restore) (maxL := 2) (ret := (some .int)) (by decide) rfl ?_
  intro p e s m args below meth c s₁ B hml hv
  obtain ⟨rfl, hP, hK, hD0⟩ := hv
  have hx := B.exec
  have hb := B.bytes
  have hr := B.returns
  have hts := atoms_spec (ws := wsX3_restore) B.pre
  have hown : s.vm.findClass RX3 = some m.cls := findClass_of_methodNamed B.named
  have hlocks := B.notSynchronized
  have inX3 : ∀ w ∈ wsX30, w ∈ wsX3_restore := fun w h => (List.mem_cons_of_mem _ (List.mem_append_right _ h))
  have fl7 := hts (.fieldLink RX3 7 "StockLogModel" "disk" "[I") (by decide +kernel)
  have fl13 := hts (.fieldLink RX3 13 "StockLogModel" "saved" "[I") (by decide +kernel)
  have fl29 := hts (.fieldLink RX3 29 "StockLogModel" "size" "I") (by decide +kernel)
  have fl33 := hts (.fieldLink RX3 33 "StockLogModel" "thrown" "I") (by decide +kernel)
  have fl41 := hts (.fieldLink RX3 41 "StockLogModel" "rows" "I") (by decide +kernel)
  have fl93 := hts (.fieldLink RX3 93 "StockLogModel" "hasBackup" "Z") (by decide +kernel)
  have hD : va_D (mA [h, d1, s1, i1, b1, t1]) [(h, .inr (4, [.int (nI (32 * n)), .ref d1, .ref s1, .int bk2, .int up2, .ref i1, .ref b1, .int (nI R), .int (nI S), .int wr, .int th, .ref t1, .int (nI T)])), (d1, .inl (cI, 2048, .inl fD)), (s1, .inl (cI, 2048, .inl fS)), (i1, .inl (cI, 2080, .inl fI)), (b1, .inl (cI, 240, .inl fB)), (t1, .inl (cI, 20, .inl fT))] := k_Dw hD0 rfl
  have hS : va_S (mA [h, d1, s1, i1, b1, t1]) s.heap s.heap [] := va_S.rf
  have hl := lv_entry ([.ref h]) (n := 2) (Nat.le_of_ble_eq_true rfl)
  rw [lg_entry_eq]
  generalize (lg_sl ([.ref h]) ++ List.replicate (2 - (lg_sl ([.ref h])).length) Slot.unset).toArray = ls at hl ⊢
  have hl : lv_has ls 2 [(0, .ref h)] := hl
  refine lv_aload_n hx hb dX3_restore_0 rfl (lv_at hl 0 rfl) ?_
  refine lv_aload_n hx hb dX3_restore_1 rfl (lv_at hl 0 rfl) ?_
  refine k_get (ci := 4) (T := TX3) (N := 13) (C := RX3) hx hb hts inX3 hown hK hP 0 rfl rfl 3 (by decide) fl93 rfl rfl dX3_restore_2 ?_
  refine lv_if_eq (tgt := 12) hx hb dX3_restore_5 (by decide) (fun c1 => ?_) (fun c1 => ?_)
  · refine lv_iconst (v := 1) hx hb dX3_restore_12 (by decide) ?_
    refine k_putf (ws' := [(h, .inr (4, [.int (nI (32 * n)), .ref d1, .ref s1, .int bk2, .int up2, .ref i1, .ref b1, .int (nI R), .int (nI S), .int wr, .int 1, .ref t1, .int (nI T)])), (d1, .inl (cI, 2048, .inl fD)), (s1, .inl (cI, 2048, .inl fS)), (i1, .inl (cI, 2080, .inl fI)), (b1, .inl (cI, 240, .inl fB)), (t1, .inl (cI, 20, .inl fT))]) (ci := 4) (T := TX3) (N := 13) (C := RX3) (ty := .int) hx hb hts inX3 tyX3 tyX3_ok nmX3 hown hK hP hD hS 0 rfl rfl 10 (by decide) fl33 rfl rfl rfl rfl rfl (Nat.le_of_ble_eq_true rfl) dX3_restore_13 rfl (fun H locs hP hD hS => ?_)
    refine lv_aload_n hx hb dX3_restore_16 rfl (lv_at hl 0 rfl) ?_
    refine k_get (ci := 4) (T := TX3) (N := 13) (C := RX3) hx hb hts inX3 hown hK hP 0 rfl rfl 10 (by decide) fl33 rfl rfl dX3_restore_17 ?_
    refine lv_if_eq (tgt := 25) hx hb dX3_restore_20 (by decide) (fun c2 => ?_) (fun c2 => ?_)
    · exact absurd c2 (by decide)
    · refine lv_iconst (v := 0) hx hb dX3_restore_23 (by decide) ?_
      exact k_iretW hx hb hr hlocks hP hS (by have hth : thUp bk2 = 1 := (by simp only [thUp, if_pos c1, if_neg c2]); (simp only [hth, il0, il1, il2, il3, if_true, if_false]) <;> rfl) (by have hth : thUp bk2 = 1 := (by simp only [thUp, if_pos c1, if_neg c2]); (simp only [hth, il0, il1, il2, il3, if_true, if_false]) <;> rfl) dX3_restore_24
  · refine lv_iconst (v := 0) hx hb dX3_restore_8 (by decide) ?_
    refine lv_goto (tgt := 13) hx hb dX3_restore_9 (by decide) ?_
    refine k_putf (ws' := [(h, .inr (4, [.int (nI (32 * n)), .ref d1, .ref s1, .int bk2, .int up2, .ref i1, .ref b1, .int (nI R), .int (nI S), .int wr, .int 0, .ref t1, .int (nI T)])), (d1, .inl (cI, 2048, .inl fD)), (s1, .inl (cI, 2048, .inl fS)), (i1, .inl (cI, 2080, .inl fI)), (b1, .inl (cI, 240, .inl fB)), (t1, .inl (cI, 20, .inl fT))]) (ci := 4) (T := TX3) (N := 13) (C := RX3) (ty := .int) hx hb hts inX3 tyX3 tyX3_ok nmX3 hown hK hP hD hS 0 rfl rfl 10 (by decide) fl33 rfl rfl rfl rfl rfl (Nat.le_of_ble_eq_true rfl) dX3_restore_13 rfl (fun H locs hP hD hS => ?_)
    refine lv_aload_n hx hb dX3_restore_16 rfl (lv_at hl 0 rfl) ?_
    refine k_get (ci := 4) (T := TX3) (N := 13) (C := RX3) hx hb hts inX3 hown hK hP 0 rfl rfl 10 (by decide) fl33 rfl rfl dX3_restore_17 ?_
    refine lv_if_eq (tgt := 25) hx hb dX3_restore_20 (by decide) (fun c3 => ?_) (fun c3 => ?_)
    · refine lv_iconst (v := 0) hx hb dX3_restore_25 (by decide) ?_
      refine lv_istore_n (lv' := [(1, .int 0), (0, .ref h)]) hx hb dX3_restore_26 rfl hl (by decide) rfl (fun ls hl => ?_)
      have loop27 : ∀ (n9 : Nat) (k : Nat) (x : Nat → Int32) (H : Heap) (locs : List Loc) (ls : Array Slot), (x = cpN fD fS 0 k) → (k ≤ 32 * n) → 32 * n - k < n9 → va_P (dC, dI) vwCl [(h, .inr (4, [.int (nI (32 * n)), .ref d1, .ref s1, .int bk2, .int up2, .ref i1, .ref b1, .int (nI R), .int (nI S), .int wr, .int 0, .ref t1, .int (nI T)])), (d1, .inl (cI, 2048, .inl x)), (s1, .inl (cI, 2048, .inl fS)), (i1, .inl (cI, 2080, .inl fI)), (b1, .inl (cI, 240, .inl fB)), (t1, .inl (cI, 20, .inl fT))] H → va_D (mA [h, d1, s1, i1, b1, t1]) [(h, .inr (4, [.int (nI (32 * n)), .ref d1, .ref s1, .int bk2, .int up2, .ref i1, .ref b1, .int (nI R), .int (nI S), .int wr, .int 0, .ref t1, .int (nI T)])), (d1, .inl (cI, 2048, .inl x)), (s1, .inl (cI, 2048, .inl fS)), (i1, .inl (cI, 2080, .inl fI)), (b1, .inl (cI, 240, .inl fB)), (t1, .inl (cI, 20, .inl fT))] → va_S (mA [h, d1, s1, i1, b1, t1]) s.heap H locs → lv_has ls 2 [(1, .int (nI k)), (0, .ref h)] → W p l e (headSpec wsX3_restore ({ frames := 5, cells := 0, slots := 0, locals := 117 })).room s m ([.ref h] : List Value).toArray below meth c H locs 0 0 (MQ below (mQ dC dI [(h, .inr (4, [.int (nI (32 * n)), .ref d1, .ref s1, .int bk2, .int (if thUp bk2 = 0 then 1 else up2), .ref i1, .ref b1, .int (nI (if thUp bk2 = 0 then (rdN n (cpN fD fS 0 (32 * n)) Db (32 * n + 1) (fI, fB, Bg, 0, 0)).1.2.2.2.1 else R)), .int (nI (if thUp bk2 = 0 then (rdN n (cpN fD fS 0 (32 * n)) Db (32 * n + 1) (fI, fB, Bg, 0, 0)).1.2.2.2.1 else S)), .int (if thUp bk2 = 0 then (if (rdN n (cpN fD fS 0 (32 * n)) Db (32 * n + 1) (fI, fB, Bg, 0, 0)).2 = 7 then 0 else (rdN n (cpN fD fS 0 (32 * n)) Db (32 * n + 1) (fI, fB, Bg, 0, 0)).2) else wr), .int (thUp bk2), .ref t1, .int (nI (if thUp bk2 = 0 then 0 else T))])), (d1, .inl (cI, 2048, .inl (if thUp bk2 = 0 then cpN fD fS 0 (32 * n) else fD))), (s1, .inl (cI, 2048, .inl fS)), (i1, .inl (cI, 2080, .inl (if thUp bk2 = 0 then (rdN n (cpN fD fS 0 (32 * n)) Db (32 * n + 1) (fI, fB, Bg, 0, 0)).1.1 else fI))), (b1, .inl (cI, 240, .inl (if thUp bk2 = 0 then (rdN n (cpN fD fS 0 (32 * n)) Db (32 * n + 1) (fI, fB, Bg, 0, 0)).1.2.1 else fB))), (t1, .inl (cI, 20, .inl fT))] [h, d1, s1, i1, b1, t1] (some (.int (if thUp bk2 = 0 then nI (rdN n (cpN fD fS 0 (32 * n)) Db (32 * n + 1) (fI, fB, Bg, 0, 0)).1.2.2.2.1 else 0)))) ([.ref h] : List Value).toArray s 0 0 (mA [h, d1, s1, i1, b1, t1])) (F0 m 27 ls []) := by
        intro n9
        induction n9 with
        | zero => intro k x H locs ls hx9 hk2 hm; exact absurd hm (Nat.not_lt_zero _)
        | succ n9 ih =>
          intro k x H locs ls hx9 hk2 hm hP hD hS hl
          refine lv_iload_n hx hb dX3_restore_27 rfl (lv_at hl 0 rfl) ?_
          refine lv_aload_n hx hb dX3_restore_28 rfl (lv_at hl 1 rfl) ?_
          refine k_get (ci := 4) (T := TX3) (N := 13) (C := RX3) hx hb hts inX3 hown hK hP 0 rfl rfl 0 (by decide) fl29 rfl rfl dX3_restore_29 ?_
          refine lv_icmp_ge (tgt := 53) hx hb dX3_restore_32 (by decide) (fun c4 => ?_) (fun c4 => ?_)
          · have nc4 : (32 * n) ≤ k := (nI_leI (a := 32 * n) (b := k) (by omega) (by omega)).mp c4
            refine lv_aload_n hx hb dX3_restore_53 rfl (lv_at hl 1 rfl) ?_
            refine k_afW (wc := [(h, .inr (4, [.int (nI (32 * n)), .ref d1, .ref s1, .int bk2, .int up2, .ref i1, .ref b1, .int (nI R), .int (nI S), .int wr, .int 0, .ref t1, .int (nI T)])), (d1, .inl (cI, 2048, .inl x)), (s1, .inl (cI, 2048, .inl fS)), (i1, .inl (cI, 2080, .inl fI)), (b1, .inl (cI, 240, .inl fB)), (t1, .inl (cI, 20, .inl fT))]) (ws' := [(h, .inr (4, [.int (nI (32 * n)), .ref d1, .ref s1, .int bk2, .int (nI 1), .ref i1, .ref b1, .int (nI ((rdN n x Db (32 * n + 1) (fI, fB, Bg, 0, 0)).1.2.2.2.1)), .int (nI ((rdN n x Db (32 * n + 1) (fI, fB, Bg, 0, 0)).1.2.2.2.1)), .int (if (rdN n x Db (32 * n + 1) (fI, fB, Bg, 0, 0)).2 = 7 then 0 else (rdN n x Db (32 * n + 1) (fI, fB, Bg, 0, 0)).2), .int 0, .ref t1, .int (nI 0)])), (d1, .inl (cI, 2048, .inl x)), (s1, .inl (cI, 2048, .inl fS)), (i1, .inl (cI, 2080, .inl ((rdN n x Db (32 * n + 1) (fI, fB, Bg, 0, 0)).1.1))), (b1, .inl (cI, 240, .inl ((rdN n x Db (32 * n + 1) (fI, fB, Bg, 0, 0)).1.2.1))), (t1, .inl (cI, 20, .inl fT))]) (va_runV (rest := []) ⟨hx, hb, hml, hown, hts⟩ (m_X3_read l dC dI cI cJ h d1 s1 i1 b1 t1 x fS fI fB fT n R S T bk2 up2 wr 0 Bg Db (by omega) (by rw [hx9, show k = 32 * n by omega]; exact hDb) hB0 (by omega)) (cwV 0 hts gX3_restore_X3_read rfl rfl rfl hdv_X3_read ⟨Nat.le_of_ble_eq_true rfl, Nat.le_of_ble_eq_true rfl⟩) (k_preVW hK hP hD [0, 1, 2, 3, 4, 5] rfl rfl 0 rfl rfl) rfl rfl hl.1 rfl (lv_room (Nat.le_of_ble_eq_true rfl)) dX3_restore_54 ⟨Nat.le_of_ble_eq_true rfl, Nat.le_of_ble_eq_true rfl⟩) hP hD hS [0, 1, 2, 3, 4, 5] rfl rfl rfl rfl (fun H locs hP hD hS => ?_)
            refine lv_aload_n hx hb dX3_restore_57 rfl (lv_at hl 1 rfl) ?_
            refine k_get (ci := 4) (T := TX3) (N := 13) (C := RX3) hx hb hts inX3 hown hK hP 0 rfl rfl 7 (by decide) fl41 rfl rfl dX3_restore_58 ?_
            exact k_iretW hx hb hr hlocks hP hS (by have hth : thUp bk2 = 0 := (by simp only [thUp, if_neg c1, if_pos c3, if_pos c4]); (simp only [hth, il0, il1, il2, il3, if_true, if_false]) <;> (have hx8 : x = cpN fD fS 0 (32 * n) := (by rw [hx9, show k = 32 * n by omega]); subst hx8; rfl)) (by have hth : thUp bk2 = 0 := (by simp only [thUp, if_neg c1, if_pos c3, if_pos c4]); (simp only [hth, il0, il1, il2, il3, if_true, if_false]) <;> (have hx8 : x = cpN fD fS 0 (32 * n) := (by rw [hx9, show k = 32 * n by omega]); subst hx8; rfl)) dX3_restore_61
          · have nc4 : ¬ (32 * n) ≤ k := fun h9 => c4 ((nI_leI (a := 32 * n) (b := k) (by omega) (by omega)).mpr h9)
            refine lv_aload_n hx hb dX3_restore_35 rfl (lv_at hl 1 rfl) ?_
            refine k_get (ci := 4) (T := TX3) (N := 13) (C := RX3) hx hb hts inX3 hown hK hP 0 rfl rfl 1 (by decide) fl7 rfl rfl dX3_restore_36 ?_
            refine lv_iload_n hx hb dX3_restore_39 rfl (lv_at hl 0 rfl) ?_
            refine lv_aload_n hx hb dX3_restore_40 rfl (lv_at hl 1 rfl) ?_
            refine k_get (ci := 4) (T := TX3) (N := 13) (C := RX3) hx hb hts inX3 hown hK hP 0 rfl rfl 2 (by decide) fl13 rfl rfl dX3_restore_41 ?_
            refine lv_iload_n hx hb dX3_restore_44 rfl (lv_at hl 0 rfl) ?_
            refine k_ialdn (i := k) hx hb hK hP 2 rfl (by omega) (by decide) dX3_restore_45 ?_
            refine k_iastn (ws' := [(h, .inr (4, [.int (nI (32 * n)), .ref d1, .ref s1, .int bk2, .int up2, .ref i1, .ref b1, .int (nI R), .int (nI S), .int wr, .int 0, .ref t1, .int (nI T)])), (d1, .inl (cI, 2048, .inl (upd x k (fS k)))), (s1, .inl (cI, 2048, .inl fS)), (i1, .inl (cI, 2080, .inl fI)), (b1, .inl (cI, 240, .inl fB)), (t1, .inl (cI, 20, .inl fT))]) (j := k) hx hb hK hP hD hS 1 rfl rfl (by omega) (by decide) dX3_restore_46 rfl (fun H locs hP hD hS => ?_)
            refine lv_iinc (v := nI (k + 1)) (lv' := [(1, .int (nI (k + 1))), (0, .ref h)]) hx hb dX3_restore_47 hl (k := 0) rfl (nI_1 k) (by decide) rfl (fun ls hl => ?_)
            refine lv_goto (tgt := 27) hx hb dX3_restore_50 (by decide) ?_
            exact ih (k + 1) (upd x k (fS k)) _ _ ls (by rw [cpN, ← hx9, Nat.zero_add]) (by omega) (by omega) hP hD hS (lv_sub hl [0, 1] rfl)
      exact loop27 _ 0 fD _ _ ls rfl (Nat.zero_le _) (Nat.lt_succ_self _) hP hD hS (lv_sub hl [0, 1] rfl)
    · exact absurd c3 (by decide)
set_option maxHeartbeats 4000000 in
set_option maxRecDepth 100000 in
theorem m_X3_row (l : Launch) (dC : Nat → ClassId) (dI : Nat → Nat → Nat) (cI cJ : ClassId) (h : Nat) (d1 : Nat) (s1 : Nat) (i1 : Nat) (b1 : Nat) (t1 : Nat) (fD : Nat → Int32) (fS : Nat → Int32) (fI : Nat → Int32) (fB : Nat → Int32) (fT : Nat → Int32) (n : Nat) (R : Nat) (S : Nat) (T : Nat) (bk2 : Int32) (up2 : Int32) (wr : Int32) (th : Int32) (nb : Nat) (bk : Nat) (lk : Nat) (w : Nat) (hn : n ≤ 64) (hR9 : R ≤ 227) (hS9 : S ≤ R) (hnb : 1 ≤ nb ∧ nb ≤ R) (hbg : fB (nb - 1) = nI bk) (hbk : bk + 30 < 2080) (hlk : fI (bk + 4) = nI lk) (hlk2 : lk ≤ 20) (hin : ¬ mWithin (nI nb) 1 (nI R) = 0) (hw31 : w < 2 ^ 31) : cW l yX3_row wsX3_row ({ frames := 1, cells := 0, slots := 0, locals := 22 }) dC dI cI cJ [(h, .inr (4, [.int (nI (32 * n)), .ref d1, .ref s1, .int bk2, .int up2, .ref i1, .ref b1, .int (nI R), .int (nI S), .int wr, .int th, .ref t1, .int (nI T)])), (d1, .inl (cI, 2048, .inl fD)), (s1, .inl (cI, 2048, .inl fS)), (i1, .inl (cI, 2080, .inl fI)), (b1, .inl (cI, 240, .inl fB)), (t1, .inl (cI, 20, .inl fT))] [(h, .inr (4, [.int (nI (32 * n)), .ref d1, .ref s1, .int bk2, .int up2, .ref i1, .ref b1, .int (nI R), .int (nI S), .int wr, .int (thRow w lk), .ref t1, .int (nI T)])), (d1, .inl (cI, 2048, .inl fD)), (s1, .inl (cI, 2048, .inl fS)), (i1, .inl (cI, 2080, .inl fI)), (b1, .inl (cI, 240, .inl fB)), (t1, .inl (cI, 20, .inl fT))] [h, d1, s1, i1, b1, t1] [.ref h, .int (nI nb), .int (nI w)] (some (.int (if thRow w lk = 0 then rowN fI S nb bk w lk else 0))) := by
  refine Met.ofW (cc := cX3_row) (maxL := 5) (ret := (some .int)) (by decide) rfl ?_
  intro p e s m args below meth c s₁ B hml hv
  obtain ⟨rfl, hP, hK, hD0⟩ := hv
  have hx := B.exec
  have hb := B.bytes
  have hr := B.returns
  have hts := atoms_spec (ws := wsX3_row) B.pre
  have hown : s.vm.findClass RX3 = some m.cls := findClass_of_methodNamed B.named
  have hlocks := B.notSynchronized
  have inX3 : ∀ w ∈ wsX30, w ∈ wsX3_row := fun w h => (List.mem_cons_of_mem _ (List.mem_append_right _ h))
  have fl20 := hts (.fieldLink RX3 20 "StockLogModel" "image" "[I") (by decide +kernel)
  have fl23 := hts (.fieldLink RX3 23 "StockLogModel" "begin" "[I") (by decide +kernel)
  have fl33 := hts (.fieldLink RX3 33 "StockLogModel" "thrown" "I") (by decide +kernel)
  have fl41 := hts (.fieldLink RX3 41 "StockLogModel" "rows" "I") (by decide +kernel)
  have fl70 := hts (.fieldLink RX3 70 "StockLogModel" "synced" "I") (by decide +kernel)
  have hD : va_D (mA [h, d1, s1, i1, b1, t1]) [(h, .inr (4, [.int (nI (32 * n)), .ref d1, .ref s1, .int bk2, .int up2, .ref i1, .ref b1, .int (nI R), .int (nI S), .int wr, .int th, .ref t1, .int (nI T)])), (d1, .inl (cI, 2048, .inl fD)), (s1, .inl (cI, 2048, .inl fS)), (i1, .inl (cI, 2080, .inl fI)), (b1, .inl (cI, 240, .inl fB)), (t1, .inl (cI, 20, .inl fT))] := k_Dw hD0 rfl
  have hS : va_S (mA [h, d1, s1, i1, b1, t1]) s.heap s.heap [] := va_S.rf
  have hl := lv_entry ([.ref h, .int (nI nb), .int (nI w)]) (n := 5) (Nat.le_of_ble_eq_true rfl)
  rw [lg_entry_eq]
  generalize (lg_sl ([.ref h, .int (nI nb), .int (nI w)]) ++ List.replicate (5 - (lg_sl ([.ref h, .int (nI nb), .int (nI w)])).length) Slot.unset).toArray = ls at hl ⊢
  have hl : lv_has ls 5 [(0, .ref h), (1, .int (nI nb)), (2, .int (nI w))] := hl
  have hnb1 := hnb.1
  have hnb2 := hnb.2
  refine lv_iload_n hx hb dX3_row_0 rfl (lv_at hl 1 rfl) ?_
  refine lv_iconst (v := 1) hx hb dX3_row_1 (by decide) ?_
  refine lv_aload_n hx hb dX3_row_2 rfl (lv_at hl 0 rfl) ?_
  refine k_get (ci := 4) (T := TX3) (N := 13) (C := RX3) hx hb hts inX3 hown hK hP 0 rfl rfl 7 (by decide) fl41 rfl rfl dX3_row_3 ?_
  refine k_afP (va_runS (rest := []) ⟨hx, hb, hml, hown, hts⟩ (m_X3_within l dC dI cI cJ (nI nb) 1 (nI R) ) (cwS 3 hts gX3_row_X3_within rfl rfl rfl hds_X3_within ⟨Nat.le_of_ble_eq_true rfl, Nat.le_of_ble_eq_true rfl⟩) (k_preSP hK hP [] rfl) rfl rfl hl.1 rfl (lv_room (Nat.le_of_ble_eq_true rfl)) dX3_row_6 ⟨Nat.le_of_ble_eq_true rfl, Nat.le_of_ble_eq_true rfl⟩) ?_
  refine lv_istore_n (lv' := [(3, .int (mWithin (nI nb) 1 (nI R))), (0, .ref h), (1, .int (nI nb)), (2, .int (nI w))]) hx hb dX3_row_9 rfl hl (by decide) rfl (fun ls hl => ?_)
  refine lv_aload_n hx hb dX3_row_10 rfl (lv_at hl 1 rfl) ?_
  refine lv_iload_n hx hb dX3_row_11 rfl (lv_at hl 0 rfl) ?_
  refine lv_if_ne (tgt := 19) hx hb dX3_row_12 (by decide) (fun c1 => ?_) (fun c1 => ?_)
  · refine lv_iload_n hx hb dX3_row_19 rfl (lv_at hl 3 rfl) ?_
    refine lv_iconst (v := 0) hx hb dX3_row_20 (by decide) ?_
    refine lv_iconst (v := 2) hx hb dX3_row_21 (by decide) ?_
    refine k_afP (va_runS (rest := [.ref h]) ⟨hx, hb, hml, hown, hts⟩ (m_X3_within l dC dI cI cJ (nI w) 0 2 ) (cwS 3 hts gX3_row_X3_within rfl rfl rfl hds_X3_within ⟨Nat.le_of_ble_eq_true rfl, Nat.le_of_ble_eq_true rfl⟩) (k_preSP hK hP [] rfl) rfl rfl hl.1 rfl (lv_room (Nat.le_of_ble_eq_true rfl)) dX3_row_22 ⟨Nat.le_of_ble_eq_true rfl, Nat.le_of_ble_eq_true rfl⟩) ?_
    refine lv_if_ne (tgt := 38) hx hb dX3_row_25 (by decide) (fun c2 => ?_) (fun c2 => ?_)
    · have hw2 := within_le (k := 2) hw31 (by decide) c2
      refine lv_iload_n hx hb dX3_row_38 rfl (lv_at hl 3 rfl) ?_
      refine lv_bipush (v := 10) hx hb dX3_row_39 (by decide) ?_
      refine lv_icmp_lt (tgt := 62) hx hb dX3_row_41 (by decide) (fun c3 => ?_) (fun c3 => ?_)
      · have nc3 : w < 10 := (nI_ltI (a := w) (b := 10) (by omega) (by omega)).mp c3
        refine lv_iconst (v := 0) hx hb dX3_row_62 (by decide) ?_
        refine k_putf (ws' := [(h, .inr (4, [.int (nI (32 * n)), .ref d1, .ref s1, .int bk2, .int up2, .ref i1, .ref b1, .int (nI R), .int (nI S), .int wr, .int 0, .ref t1, .int (nI T)])), (d1, .inl (cI, 2048, .inl fD)), (s1, .inl (cI, 2048, .inl fS)), (i1, .inl (cI, 2080, .inl fI)), (b1, .inl (cI, 240, .inl fB)), (t1, .inl (cI, 20, .inl fT))]) (ci := 4) (T := TX3) (N := 13) (C := RX3) (ty := .int) hx hb hts inX3 tyX3 tyX3_ok nmX3 hown hK hP hD hS 0 rfl rfl 10 (by decide) fl33 rfl rfl rfl rfl rfl (Nat.le_of_ble_eq_true rfl) dX3_row_63 rfl (fun H locs hP hD hS => ?_)
        refine lv_aload_n hx hb dX3_row_66 rfl (lv_at hl 1 rfl) ?_
        refine k_get (ci := 4) (T := TX3) (N := 13) (C := RX3) hx hb hts inX3 hown hK hP 0 rfl rfl 10 (by decide) fl33 rfl rfl dX3_row_67 ?_
        refine lv_if_eq (tgt := 75) hx hb dX3_row_70 (by decide) (fun c4 => ?_) (fun c4 => ?_)
        · refine lv_iload_n hx hb dX3_row_75 rfl (lv_at hl 2 rfl) ?_
          refine lv_iconst (v := 1) hx hb dX3_row_76 (by decide) ?_
          refine lv_isub hx hb dX3_row_77 ?_
          refine k_nrm (y := nI (nb - 1)) (pk_sub (a := nb) (b := 1) (by omega)) ?_
          refine lv_istore (lv' := [(4, .int (nI (nb - 1))), (3, .int (mWithin (nI nb) 1 (nI R))), (0, .ref h), (1, .int (nI nb)), (2, .int (nI w))]) hx hb dX3_row_78 hl (by decide) rfl (fun ls hl => ?_)
          refine lv_iload_n hx hb dX3_row_80 rfl (lv_at hl 4 rfl) ?_
          refine lv_if_ne (tgt := 93) hx hb dX3_row_81 (by decide) (fun c5 => ?_) (fun c5 => ?_)
          · have nc5 : ¬ w = 0 := fun h9 => c5 ((nI_eq (a := w) (b := 0) (by omega) (by omega)).mpr h9)
            refine lv_iload_n hx hb dX3_row_93 rfl (lv_at hl 4 rfl) ?_
            refine lv_iconst (v := 1) hx hb dX3_row_94 (by decide) ?_
            refine lv_icmp_ne (tgt := 107) hx hb dX3_row_95 (by decide) (fun c6 => ?_) (fun c6 => ?_)
            · have nc6 : ¬ w = 1 := fun h9 => c6 ((nI_eq (a := w) (b := 1) (by omega) (by omega)).mpr h9)
              refine lv_iload_n hx hb dX3_row_107 rfl (lv_at hl 4 rfl) ?_
              refine lv_iconst (v := 2) hx hb dX3_row_108 (by decide) ?_
              refine lv_icmp_ne (tgt := 129) hx hb dX3_row_109 (by decide) (fun c7 => ?_) (fun c7 => ?_)
              · have nc7 : ¬ w = 2 := fun h9 => c7 ((nI_eq (a := w) (b := 2) (by omega) (by omega)).mpr h9)
                refine lv_aload_n hx hb dX3_row_129 rfl (lv_at hl 2 rfl) ?_
                refine k_get (ci := 4) (T := TX3) (N := 13) (C := RX3) hx hb hts inX3 hown hK hP 0 rfl rfl 5 (by decide) fl20 rfl rfl dX3_row_130 ?_
                refine lv_aload_n hx hb dX3_row_133 rfl (lv_at hl 2 rfl) ?_
                refine k_get (ci := 4) (T := TX3) (N := 13) (C := RX3) hx hb hts inX3 hown hK hP 0 rfl rfl 6 (by decide) fl23 rfl rfl dX3_row_134 ?_
                refine lv_iload hx hb dX3_row_137 (lv_at hl 0 rfl) ?_
                refine k_ialdn (i := nb - 1) hx hb hK hP 4 rfl (by omega) (by decide) dX3_row_139 ?_
                refine k_nrm (y := nI bk) hbg ?_
                refine lv_iconst (v := 5) hx hb dX3_row_140 (by decide) ?_
                refine lv_iadd hx hb dX3_row_141 ?_
                refine k_nrm (y := nI (bk + 5)) (nI_add bk 5) ?_
                refine lv_iload_n hx hb dX3_row_142 rfl (lv_at hl 4 rfl) ?_
                refine lv_iadd hx hb dX3_row_143 ?_
                refine k_nrm (y := nI ((bk + 5) + w)) (nI_add (bk + 5) w) ?_
                refine lv_bipush (v := 10) hx hb dX3_row_144 (by decide) ?_
                refine lv_isub hx hb dX3_row_146 ?_
                refine k_nrm (y := nI (((bk + 5) + w) - 10)) (pk_sub (a := (bk + 5) + w) (b := 10) (by omega)) ?_
                refine k_ialdn (i := ((bk + 5) + w) - 10) hx hb hK hP 3 rfl (by omega) (by decide) dX3_row_147 ?_
                exact k_iretW hx hb hr hlocks hP hS (by have hth : thRow w lk = 0 := (by simp only [thRow, if_neg c1, if_neg c2, if_pos nc3, if_neg nc5, if_neg nc6, if_neg nc7]); (simp only [hth, il0, if_true, rowN, if_neg c1, if_neg c2, if_pos nc3, if_neg nc5, if_neg nc6, if_neg nc7]) <;> rfl) (by have hth : thRow w lk = 0 := (by simp only [thRow, if_neg c1, if_neg c2, if_pos nc3, if_neg nc5, if_neg nc6, if_neg nc7]); (simp only [hth]) <;> rfl) dX3_row_148
              · have nc7 : w = 2 := (nI_eq (a := w) (b := 2) (by omega) (by omega)).mp c7
                refine lv_iload hx hb dX3_row_112 (lv_at hl 0 rfl) ?_
                refine lv_aload_n hx hb dX3_row_114 rfl (lv_at hl 2 rfl) ?_
                refine k_get (ci := 4) (T := TX3) (N := 13) (C := RX3) hx hb hts inX3 hown hK hP 0 rfl rfl 8 (by decide) fl70 rfl rfl dX3_row_115 ?_
                refine lv_icmp_ge (tgt := 125) hx hb dX3_row_118 (by decide) (fun c8 => ?_) (fun c8 => ?_)
                · have nc8 : S ≤ (nb - 1) := (nI_leI (a := S) (b := nb - 1) (by omega) (by omega)).mp c8
                  refine lv_iconst (v := 0) hx hb dX3_row_125 (by decide) ?_
                  refine lv_goto (tgt := 148) hx hb dX3_row_126 (by decide) ?_
                  exact k_iretW hx hb hr hlocks hP hS (by have hth : thRow w lk = 0 := (by simp only [thRow, if_neg c1, if_neg c2, if_pos nc3, if_neg nc5, if_neg nc6, if_pos nc7, if_pos nc8]); (simp only [hth, il0, if_true, rowN, if_neg c1, if_neg c2, if_pos nc3, if_neg nc5, if_neg nc6, if_pos nc7, if_pos nc8]) <;> rfl) (by have hth : thRow w lk = 0 := (by simp only [thRow, if_neg c1, if_neg c2, if_pos nc3, if_neg nc5, if_neg nc6, if_pos nc7, if_pos nc8]); (simp only [hth]) <;> rfl) dX3_row_148
                · have nc8 : ¬ S ≤ (nb - 1) := fun h9 => c8 ((nI_leI (a := S) (b := nb - 1) (by omega) (by omega)).mpr h9)
                  refine lv_iconst (v := 1) hx hb dX3_row_121 (by decide) ?_
                  refine lv_goto (tgt := 148) hx hb dX3_row_122 (by decide) ?_
                  exact k_iretW hx hb hr hlocks hP hS (by have hth : thRow w lk = 0 := (by simp only [thRow, if_neg c1, if_neg c2, if_pos nc3, if_neg nc5, if_neg nc6, if_pos nc7, if_neg nc8]); (simp only [hth, il0, if_true, rowN, if_neg c1, if_neg c2, if_pos nc3, if_neg nc5, if_neg nc6, if_pos nc7, if_neg nc8]) <;> rfl) (by have hth : thRow w lk = 0 := (by simp only [thRow, if_neg c1, if_neg c2, if_pos nc3, if_neg nc5, if_neg nc6, if_pos nc7, if_neg nc8]); (simp only [hth]) <;> rfl) dX3_row_148
            · have nc6 : w = 1 := (nI_eq (a := w) (b := 1) (by omega) (by omega)).mp c6
              refine lv_aload_n hx hb dX3_row_98 rfl (lv_at hl 2 rfl) ?_
              refine lv_iload hx hb dX3_row_99 (lv_at hl 0 rfl) ?_
              refine k_afP (va_runV (rest := []) ⟨hx, hb, hml, hown, hts⟩ (m_X3_longOf l dC dI cI cJ h d1 s1 i1 b1 t1 fD fS fI fB fT n R S T bk2 up2 wr 0 (nb - 1) bk lk (by omega) hbg (by omega) hlk) (cwV 1 hts gX3_row_X3_longOf rfl rfl rfl hdv_X3_longOf ⟨Nat.le_of_ble_eq_true rfl, Nat.le_of_ble_eq_true rfl⟩) (k_preVP hK hP [0, 1, 2, 3, 4, 5] rfl 0 rfl rfl) rfl rfl hl.1 rfl (lv_room (Nat.le_of_ble_eq_true rfl)) dX3_row_101 ⟨Nat.le_of_ble_eq_true rfl, Nat.le_of_ble_eq_true rfl⟩) ?_
              refine lv_goto (tgt := 148) hx hb dX3_row_104 (by decide) ?_
              exact k_iretW hx hb hr hlocks hP hS (by have hth : thRow w lk = 0 := (by simp only [thRow, if_neg c1, if_neg c2, if_pos nc3, if_neg nc5, if_pos nc6]); (simp only [hth, il0, if_true, rowN, if_neg c1, if_neg c2, if_pos nc3, if_neg nc5, if_pos nc6]) <;> rfl) (by have hth : thRow w lk = 0 := (by simp only [thRow, if_neg c1, if_neg c2, if_pos nc3, if_neg nc5, if_pos nc6]); (simp only [hth]) <;> rfl) dX3_row_148
          · have nc5 : w = 0 := (nI_eq (a := w) (b := 0) (by omega) (by omega)).mp c5
            refine lv_aload_n hx hb dX3_row_84 rfl (lv_at hl 2 rfl) ?_
            refine lv_iload hx hb dX3_row_85 (lv_at hl 0 rfl) ?_
            refine k_afP (va_runV (rest := []) ⟨hx, hb, hml, hown, hts⟩ (m_X3_kindOf l dC dI cI cJ h d1 s1 i1 b1 t1 fD fS fI fB fT n R S T bk2 up2 wr 0 (nb - 1) bk (by omega) hbg (by omega)) (cwV 1 hts gX3_row_X3_kindOf rfl rfl rfl hdv_X3_kindOf ⟨Nat.le_of_ble_eq_true rfl, Nat.le_of_ble_eq_true rfl⟩) (k_preVP hK hP [0, 1, 2, 3, 4, 5] rfl 0 rfl rfl) rfl rfl hl.1 rfl (lv_room (Nat.le_of_ble_eq_true rfl)) dX3_row_87 ⟨Nat.le_of_ble_eq_true rfl, Nat.le_of_ble_eq_true rfl⟩) ?_
            refine lv_goto (tgt := 148) hx hb dX3_row_90 (by decide) ?_
            exact k_iretW hx hb hr hlocks hP hS (by have hth : thRow w lk = 0 := (by simp only [thRow, if_neg c1, if_neg c2, if_pos nc3, if_pos nc5]); (simp only [hth, il0, if_true, rowN, if_neg c1, if_neg c2, if_pos nc3, if_pos nc5]) <;> rfl) (by have hth : thRow w lk = 0 := (by simp only [thRow, if_neg c1, if_neg c2, if_pos nc3, if_pos nc5]); (simp only [hth]) <;> rfl) dX3_row_148
        · exact absurd c4 (by decide)
      · have nc3 : ¬ w < 10 := fun h9 => c3 ((nI_ltI (a := w) (b := 10) (by omega) (by omega)).mpr h9)
        refine lv_iload_n hx hb dX3_row_44 rfl (lv_at hl 3 rfl) ?_
        refine lv_bipush (v := 10) hx hb dX3_row_45 (by decide) ?_
        refine lv_isub hx hb dX3_row_47 ?_
        refine k_nrm (y := nI (w - 10)) (pk_sub (a := w) (b := 10) (by omega)) ?_
        refine lv_aload_n hx hb dX3_row_48 rfl (lv_at hl 1 rfl) ?_
        refine lv_iload_n hx hb dX3_row_49 rfl (lv_at hl 2 rfl) ?_
        refine lv_iconst (v := 1) hx hb dX3_row_50 (by decide) ?_
        refine lv_isub hx hb dX3_row_51 ?_
        refine k_nrm (y := nI (nb - 1)) (pk_sub (a := nb) (b := 1) (by omega)) ?_
        refine k_afP (va_runV (rest := [.int (nI (w - 10)), .ref h]) ⟨hx, hb, hml, hown, hts⟩ (m_X3_longOf l dC dI cI cJ h d1 s1 i1 b1 t1 fD fS fI fB fT n R S T bk2 up2 wr th (nb - 1) bk lk (by omega) hbg (by omega) hlk) (cwV 1 hts gX3_row_X3_longOf rfl rfl rfl hdv_X3_longOf ⟨Nat.le_of_ble_eq_true rfl, Nat.le_of_ble_eq_true rfl⟩) (k_preVP hK hP [0, 1, 2, 3, 4, 5] rfl 0 rfl rfl) rfl rfl hl.1 rfl (lv_room (Nat.le_of_ble_eq_true rfl)) dX3_row_52 ⟨Nat.le_of_ble_eq_true rfl, Nat.le_of_ble_eq_true rfl⟩) ?_
        refine lv_icmp_lt (tgt := 62) hx hb dX3_row_55 (by decide) (fun c9 => ?_) (fun c9 => ?_)
        · have nc9 : (w - 10) < lk := (nI_ltI (a := w - 10) (b := lk) (by omega) (by omega)).mp c9
          refine lv_iconst (v := 0) hx hb dX3_row_62 (by decide) ?_
          refine k_putf (ws' := [(h, .inr (4, [.int (nI (32 * n)), .ref d1, .ref s1, .int bk2, .int up2, .ref i1, .ref b1, .int (nI R), .int (nI S), .int wr, .int 0, .ref t1, .int (nI T)])), (d1, .inl (cI, 2048, .inl fD)), (s1, .inl (cI, 2048, .inl fS)), (i1, .inl (cI, 2080, .inl fI)), (b1, .inl (cI, 240, .inl fB)), (t1, .inl (cI, 20, .inl fT))]) (ci := 4) (T := TX3) (N := 13) (C := RX3) (ty := .int) hx hb hts inX3 tyX3 tyX3_ok nmX3 hown hK hP hD hS 0 rfl rfl 10 (by decide) fl33 rfl rfl rfl rfl rfl (Nat.le_of_ble_eq_true rfl) dX3_row_63 rfl (fun H locs hP hD hS => ?_)
          refine lv_aload_n hx hb dX3_row_66 rfl (lv_at hl 1 rfl) ?_
          refine k_get (ci := 4) (T := TX3) (N := 13) (C := RX3) hx hb hts inX3 hown hK hP 0 rfl rfl 10 (by decide) fl33 rfl rfl dX3_row_67 ?_
          refine lv_if_eq (tgt := 75) hx hb dX3_row_70 (by decide) (fun c10 => ?_) (fun c10 => ?_)
          · refine lv_iload_n hx hb dX3_row_75 rfl (lv_at hl 2 rfl) ?_
            refine lv_iconst (v := 1) hx hb dX3_row_76 (by decide) ?_
            refine lv_isub hx hb dX3_row_77 ?_
            refine k_nrm (y := nI (nb - 1)) (pk_sub (a := nb) (b := 1) (by omega)) ?_
            refine lv_istore (lv' := [(4, .int (nI (nb - 1))), (3, .int (mWithin (nI nb) 1 (nI R))), (0, .ref h), (1, .int (nI nb)), (2, .int (nI w))]) hx hb dX3_row_78 hl (by decide) rfl (fun ls hl => ?_)
            refine lv_iload_n hx hb dX3_row_80 rfl (lv_at hl 4 rfl) ?_
            refine lv_if_ne (tgt := 93) hx hb dX3_row_81 (by decide) (fun c11 => ?_) (fun c11 => ?_)
            · have nc11 : ¬ w = 0 := fun h9 => c11 ((nI_eq (a := w) (b := 0) (by omega) (by omega)).mpr h9)
              refine lv_iload_n hx hb dX3_row_93 rfl (lv_at hl 4 rfl) ?_
              refine lv_iconst (v := 1) hx hb dX3_row_94 (by decide) ?_
              refine lv_icmp_ne (tgt := 107) hx hb dX3_row_95 (by decide) (fun c12 => ?_) (fun c12 => ?_)
              · have nc12 : ¬ w = 1 := fun h9 => c12 ((nI_eq (a := w) (b := 1) (by omega) (by omega)).mpr h9)
                refine lv_iload_n hx hb dX3_row_107 rfl (lv_at hl 4 rfl) ?_
                refine lv_iconst (v := 2) hx hb dX3_row_108 (by decide) ?_
                refine lv_icmp_ne (tgt := 129) hx hb dX3_row_109 (by decide) (fun c13 => ?_) (fun c13 => ?_)
                · have nc13 : ¬ w = 2 := fun h9 => c13 ((nI_eq (a := w) (b := 2) (by omega) (by omega)).mpr h9)
                  refine lv_aload_n hx hb dX3_row_129 rfl (lv_at hl 2 rfl) ?_
                  refine k_get (ci := 4) (T := TX3) (N := 13) (C := RX3) hx hb hts inX3 hown hK hP 0 rfl rfl 5 (by decide) fl20 rfl rfl dX3_row_130 ?_
                  refine lv_aload_n hx hb dX3_row_133 rfl (lv_at hl 2 rfl) ?_
                  refine k_get (ci := 4) (T := TX3) (N := 13) (C := RX3) hx hb hts inX3 hown hK hP 0 rfl rfl 6 (by decide) fl23 rfl rfl dX3_row_134 ?_
                  refine lv_iload hx hb dX3_row_137 (lv_at hl 0 rfl) ?_
                  refine k_ialdn (i := nb - 1) hx hb hK hP 4 rfl (by omega) (by decide) dX3_row_139 ?_
                  refine k_nrm (y := nI bk) hbg ?_
                  refine lv_iconst (v := 5) hx hb dX3_row_140 (by decide) ?_
                  refine lv_iadd hx hb dX3_row_141 ?_
                  refine k_nrm (y := nI (bk + 5)) (nI_add bk 5) ?_
                  refine lv_iload_n hx hb dX3_row_142 rfl (lv_at hl 4 rfl) ?_
                  refine lv_iadd hx hb dX3_row_143 ?_
                  refine k_nrm (y := nI ((bk + 5) + w)) (nI_add (bk + 5) w) ?_
                  refine lv_bipush (v := 10) hx hb dX3_row_144 (by decide) ?_
                  refine lv_isub hx hb dX3_row_146 ?_
                  refine k_nrm (y := nI (((bk + 5) + w) - 10)) (pk_sub (a := (bk + 5) + w) (b := 10) (by omega)) ?_
                  refine k_ialdn (i := ((bk + 5) + w) - 10) hx hb hK hP 3 rfl (by omega) (by decide) dX3_row_147 ?_
                  exact k_iretW hx hb hr hlocks hP hS (by have hth : thRow w lk = 0 := (by simp only [thRow, if_neg c1, if_neg c2, if_neg nc3, if_pos nc9, if_neg nc11, if_neg nc12, if_neg nc13]); (simp only [hth, il0, if_true, rowN, if_neg c1, if_neg c2, if_neg nc3, if_pos nc9, if_neg nc11, if_neg nc12, if_neg nc13]) <;> rfl) (by have hth : thRow w lk = 0 := (by simp only [thRow, if_neg c1, if_neg c2, if_neg nc3, if_pos nc9, if_neg nc11, if_neg nc12, if_neg nc13]); (simp only [hth]) <;> rfl) dX3_row_148
                · have nc13 : w = 2 := (nI_eq (a := w) (b := 2) (by omega) (by omega)).mp c13
                  refine lv_iload hx hb dX3_row_112 (lv_at hl 0 rfl) ?_
                  refine lv_aload_n hx hb dX3_row_114 rfl (lv_at hl 2 rfl) ?_
                  refine k_get (ci := 4) (T := TX3) (N := 13) (C := RX3) hx hb hts inX3 hown hK hP 0 rfl rfl 8 (by decide) fl70 rfl rfl dX3_row_115 ?_
                  refine lv_icmp_ge (tgt := 125) hx hb dX3_row_118 (by decide) (fun c14 => ?_) (fun c14 => ?_)
                  · have nc14 : S ≤ (nb - 1) := (nI_leI (a := S) (b := nb - 1) (by omega) (by omega)).mp c14
                    refine lv_iconst (v := 0) hx hb dX3_row_125 (by decide) ?_
                    refine lv_goto (tgt := 148) hx hb dX3_row_126 (by decide) ?_
                    exact k_iretW hx hb hr hlocks hP hS (by have hth : thRow w lk = 0 := (by simp only [thRow, if_neg c1, if_neg c2, if_neg nc3, if_pos nc9, if_neg nc11, if_neg nc12, if_pos nc13, if_pos nc14]); (simp only [hth, il0, if_true, rowN, if_neg c1, if_neg c2, if_neg nc3, if_pos nc9, if_neg nc11, if_neg nc12, if_pos nc13, if_pos nc14]) <;> rfl) (by have hth : thRow w lk = 0 := (by simp only [thRow, if_neg c1, if_neg c2, if_neg nc3, if_pos nc9, if_neg nc11, if_neg nc12, if_pos nc13, if_pos nc14]); (simp only [hth]) <;> rfl) dX3_row_148
                  · have nc14 : ¬ S ≤ (nb - 1) := fun h9 => c14 ((nI_leI (a := S) (b := nb - 1) (by omega) (by omega)).mpr h9)
                    refine lv_iconst (v := 1) hx hb dX3_row_121 (by decide) ?_
                    refine lv_goto (tgt := 148) hx hb dX3_row_122 (by decide) ?_
                    exact k_iretW hx hb hr hlocks hP hS (by have hth : thRow w lk = 0 := (by simp only [thRow, if_neg c1, if_neg c2, if_neg nc3, if_pos nc9, if_neg nc11, if_neg nc12, if_pos nc13, if_neg nc14]); (simp only [hth, il0, if_true, rowN, if_neg c1, if_neg c2, if_neg nc3, if_pos nc9, if_neg nc11, if_neg nc12, if_pos nc13, if_neg nc14]) <;> rfl) (by have hth : thRow w lk = 0 := (by simp only [thRow, if_neg c1, if_neg c2, if_neg nc3, if_pos nc9, if_neg nc11, if_neg nc12, if_pos nc13, if_neg nc14]); (simp only [hth]) <;> rfl) dX3_row_148
              · have nc12 : w = 1 := (nI_eq (a := w) (b := 1) (by omega) (by omega)).mp c12
                refine lv_aload_n hx hb dX3_row_98 rfl (lv_at hl 2 rfl) ?_
                refine lv_iload hx hb dX3_row_99 (lv_at hl 0 rfl) ?_
                refine k_afP (va_runV (rest := []) ⟨hx, hb, hml, hown, hts⟩ (m_X3_longOf l dC dI cI cJ h d1 s1 i1 b1 t1 fD fS fI fB fT n R S T bk2 up2 wr 0 (nb - 1) bk lk (by omega) hbg (by omega) hlk) (cwV 1 hts gX3_row_X3_longOf rfl rfl rfl hdv_X3_longOf ⟨Nat.le_of_ble_eq_true rfl, Nat.le_of_ble_eq_true rfl⟩) (k_preVP hK hP [0, 1, 2, 3, 4, 5] rfl 0 rfl rfl) rfl rfl hl.1 rfl (lv_room (Nat.le_of_ble_eq_true rfl)) dX3_row_101 ⟨Nat.le_of_ble_eq_true rfl, Nat.le_of_ble_eq_true rfl⟩) ?_
                refine lv_goto (tgt := 148) hx hb dX3_row_104 (by decide) ?_
                exact k_iretW hx hb hr hlocks hP hS (by have hth : thRow w lk = 0 := (by simp only [thRow, if_neg c1, if_neg c2, if_neg nc3, if_pos nc9, if_neg nc11, if_pos nc12]); (simp only [hth, il0, if_true, rowN, if_neg c1, if_neg c2, if_neg nc3, if_pos nc9, if_neg nc11, if_pos nc12]) <;> rfl) (by have hth : thRow w lk = 0 := (by simp only [thRow, if_neg c1, if_neg c2, if_neg nc3, if_pos nc9, if_neg nc11, if_pos nc12]); (simp only [hth]) <;> rfl) dX3_row_148
            · have nc11 : w = 0 := (nI_eq (a := w) (b := 0) (by omega) (by omega)).mp c11
              refine lv_aload_n hx hb dX3_row_84 rfl (lv_at hl 2 rfl) ?_
              refine lv_iload hx hb dX3_row_85 (lv_at hl 0 rfl) ?_
              refine k_afP (va_runV (rest := []) ⟨hx, hb, hml, hown, hts⟩ (m_X3_kindOf l dC dI cI cJ h d1 s1 i1 b1 t1 fD fS fI fB fT n R S T bk2 up2 wr 0 (nb - 1) bk (by omega) hbg (by omega)) (cwV 1 hts gX3_row_X3_kindOf rfl rfl rfl hdv_X3_kindOf ⟨Nat.le_of_ble_eq_true rfl, Nat.le_of_ble_eq_true rfl⟩) (k_preVP hK hP [0, 1, 2, 3, 4, 5] rfl 0 rfl rfl) rfl rfl hl.1 rfl (lv_room (Nat.le_of_ble_eq_true rfl)) dX3_row_87 ⟨Nat.le_of_ble_eq_true rfl, Nat.le_of_ble_eq_true rfl⟩) ?_
              refine lv_goto (tgt := 148) hx hb dX3_row_90 (by decide) ?_
              exact k_iretW hx hb hr hlocks hP hS (by have hth : thRow w lk = 0 := (by simp only [thRow, if_neg c1, if_neg c2, if_neg nc3, if_pos nc9, if_pos nc11]); (simp only [hth, il0, if_true, rowN, if_neg c1, if_neg c2, if_neg nc3, if_pos nc9, if_pos nc11]) <;> rfl) (by have hth : thRow w lk = 0 := (by simp only [thRow, if_neg c1, if_neg c2, if_neg nc3, if_pos nc9, if_pos nc11]); (simp only [hth]) <;> rfl) dX3_row_148
          · exact absurd c10 (by decide)
        · have nc9 : ¬ (w - 10) < lk := fun h9 => c9 ((nI_ltI (a := w - 10) (b := lk) (by omega) (by omega)).mpr h9)
          refine lv_iconst (v := 1) hx hb dX3_row_58 (by decide) ?_
          refine lv_goto (tgt := 63) hx hb dX3_row_59 (by decide) ?_
          refine k_putf (ws' := [(h, .inr (4, [.int (nI (32 * n)), .ref d1, .ref s1, .int bk2, .int up2, .ref i1, .ref b1, .int (nI R), .int (nI S), .int wr, .int 1, .ref t1, .int (nI T)])), (d1, .inl (cI, 2048, .inl fD)), (s1, .inl (cI, 2048, .inl fS)), (i1, .inl (cI, 2080, .inl fI)), (b1, .inl (cI, 240, .inl fB)), (t1, .inl (cI, 20, .inl fT))]) (ci := 4) (T := TX3) (N := 13) (C := RX3) (ty := .int) hx hb hts inX3 tyX3 tyX3_ok nmX3 hown hK hP hD hS 0 rfl rfl 10 (by decide) fl33 rfl rfl rfl rfl rfl (Nat.le_of_ble_eq_true rfl) dX3_row_63 rfl (fun H locs hP hD hS => ?_)
          refine lv_aload_n hx hb dX3_row_66 rfl (lv_at hl 1 rfl) ?_
          refine k_get (ci := 4) (T := TX3) (N := 13) (C := RX3) hx hb hts inX3 hown hK hP 0 rfl rfl 10 (by decide) fl33 rfl rfl dX3_row_67 ?_
          refine lv_if_eq (tgt := 75) hx hb dX3_row_70 (by decide) (fun c15 => ?_) (fun c15 => ?_)
          · exact absurd c15 (by decide)
          · refine lv_iconst (v := 0) hx hb dX3_row_73 (by decide) ?_
            exact k_iretW hx hb hr hlocks hP hS (by have hth : thRow w lk = 1 := (by simp only [thRow, if_neg c1, if_neg c2, if_neg nc3, if_neg nc9]); (simp only [hth, il1, il2, if_false]) <;> rfl) (by have hth : thRow w lk = 1 := (by simp only [thRow, if_neg c1, if_neg c2, if_neg nc3, if_neg nc9]); (simp only [hth, il1, il2, if_false]) <;> rfl) dX3_row_74
    · refine lv_iload_n hx hb dX3_row_28 rfl (lv_at hl 3 rfl) ?_
      refine lv_bipush (v := 10) hx hb dX3_row_29 (by decide) ?_
      refine lv_icmp_ge (tgt := 38) hx hb dX3_row_31 (by decide) (fun c16 => ?_) (fun c16 => ?_)
      · have nc16 : 10 ≤ w := (nI_leI (a := 10) (b := w) (by omega) (by omega)).mp c16
        refine lv_iload_n hx hb dX3_row_38 rfl (lv_at hl 3 rfl) ?_
        refine lv_bipush (v := 10) hx hb dX3_row_39 (by decide) ?_
        refine lv_icmp_lt (tgt := 62) hx hb dX3_row_41 (by decide) (fun c17 => ?_) (fun c17 => ?_)
        · have nc17 : w < 10 := (nI_ltI (a := w) (b := 10) (by omega) (by omega)).mp c17
          refine lv_iconst (v := 0) hx hb dX3_row_62 (by decide) ?_
          refine k_putf (ws' := [(h, .inr (4, [.int (nI (32 * n)), .ref d1, .ref s1, .int bk2, .int up2, .ref i1, .ref b1, .int (nI R), .int (nI S), .int wr, .int 0, .ref t1, .int (nI T)])), (d1, .inl (cI, 2048, .inl fD)), (s1, .inl (cI, 2048, .inl fS)), (i1, .inl (cI, 2080, .inl fI)), (b1, .inl (cI, 240, .inl fB)), (t1, .inl (cI, 20, .inl fT))]) (ci := 4) (T := TX3) (N := 13) (C := RX3) (ty := .int) hx hb hts inX3 tyX3 tyX3_ok nmX3 hown hK hP hD hS 0 rfl rfl 10 (by decide) fl33 rfl rfl rfl rfl rfl (Nat.le_of_ble_eq_true rfl) dX3_row_63 rfl (fun H locs hP hD hS => ?_)
          refine lv_aload_n hx hb dX3_row_66 rfl (lv_at hl 1 rfl) ?_
          refine k_get (ci := 4) (T := TX3) (N := 13) (C := RX3) hx hb hts inX3 hown hK hP 0 rfl rfl 10 (by decide) fl33 rfl rfl dX3_row_67 ?_
          refine lv_if_eq (tgt := 75) hx hb dX3_row_70 (by decide) (fun c18 => ?_) (fun c18 => ?_)
          · refine lv_iload_n hx hb dX3_row_75 rfl (lv_at hl 2 rfl) ?_
            refine lv_iconst (v := 1) hx hb dX3_row_76 (by decide) ?_
            refine lv_isub hx hb dX3_row_77 ?_
            refine k_nrm (y := nI (nb - 1)) (pk_sub (a := nb) (b := 1) (by omega)) ?_
            refine lv_istore (lv' := [(4, .int (nI (nb - 1))), (3, .int (mWithin (nI nb) 1 (nI R))), (0, .ref h), (1, .int (nI nb)), (2, .int (nI w))]) hx hb dX3_row_78 hl (by decide) rfl (fun ls hl => ?_)
            refine lv_iload_n hx hb dX3_row_80 rfl (lv_at hl 4 rfl) ?_
            refine lv_if_ne (tgt := 93) hx hb dX3_row_81 (by decide) (fun c19 => ?_) (fun c19 => ?_)
            · have nc19 : ¬ w = 0 := fun h9 => c19 ((nI_eq (a := w) (b := 0) (by omega) (by omega)).mpr h9)
              refine lv_iload_n hx hb dX3_row_93 rfl (lv_at hl 4 rfl) ?_
              refine lv_iconst (v := 1) hx hb dX3_row_94 (by decide) ?_
              refine lv_icmp_ne (tgt := 107) hx hb dX3_row_95 (by decide) (fun c20 => ?_) (fun c20 => ?_)
              · have nc20 : ¬ w = 1 := fun h9 => c20 ((nI_eq (a := w) (b := 1) (by omega) (by omega)).mpr h9)
                refine lv_iload_n hx hb dX3_row_107 rfl (lv_at hl 4 rfl) ?_
                refine lv_iconst (v := 2) hx hb dX3_row_108 (by decide) ?_
                refine lv_icmp_ne (tgt := 129) hx hb dX3_row_109 (by decide) (fun c21 => ?_) (fun c21 => ?_)
                · have nc21 : ¬ w = 2 := fun h9 => c21 ((nI_eq (a := w) (b := 2) (by omega) (by omega)).mpr h9)
                  refine lv_aload_n hx hb dX3_row_129 rfl (lv_at hl 2 rfl) ?_
                  refine k_get (ci := 4) (T := TX3) (N := 13) (C := RX3) hx hb hts inX3 hown hK hP 0 rfl rfl 5 (by decide) fl20 rfl rfl dX3_row_130 ?_
                  refine lv_aload_n hx hb dX3_row_133 rfl (lv_at hl 2 rfl) ?_
                  refine k_get (ci := 4) (T := TX3) (N := 13) (C := RX3) hx hb hts inX3 hown hK hP 0 rfl rfl 6 (by decide) fl23 rfl rfl dX3_row_134 ?_
                  refine lv_iload hx hb dX3_row_137 (lv_at hl 0 rfl) ?_
                  refine k_ialdn (i := nb - 1) hx hb hK hP 4 rfl (by omega) (by decide) dX3_row_139 ?_
                  refine k_nrm (y := nI bk) hbg ?_
                  refine lv_iconst (v := 5) hx hb dX3_row_140 (by decide) ?_
                  refine lv_iadd hx hb dX3_row_141 ?_
                  refine k_nrm (y := nI (bk + 5)) (nI_add bk 5) ?_
                  refine lv_iload_n hx hb dX3_row_142 rfl (lv_at hl 4 rfl) ?_
                  refine lv_iadd hx hb dX3_row_143 ?_
                  refine k_nrm (y := nI ((bk + 5) + w)) (nI_add (bk + 5) w) ?_
                  refine lv_bipush (v := 10) hx hb dX3_row_144 (by decide) ?_
                  refine lv_isub hx hb dX3_row_146 ?_
                  refine k_nrm (y := nI (((bk + 5) + w) - 10)) (pk_sub (a := (bk + 5) + w) (b := 10) (by omega)) ?_
                  refine k_ialdn (i := ((bk + 5) + w) - 10) hx hb hK hP 3 rfl (by omega) (by decide) dX3_row_147 ?_
                  exact k_iretW hx hb hr hlocks hP hS (by have hth : thRow w lk = 0 := (by simp only [thRow, if_neg c1, if_pos c2, if_pos nc16, if_pos nc17, if_neg nc19, if_neg nc20, if_neg nc21]); (simp only [hth, il0, if_true, rowN, if_neg c1, if_pos c2, if_pos nc16, if_pos nc17, if_neg nc19, if_neg nc20, if_neg nc21]) <;> rfl) (by have hth : thRow w lk = 0 := (by simp only [thRow, if_neg c1, if_pos c2, if_pos nc16, if_pos nc17, if_neg nc19, if_neg nc20, if_neg nc21]); (simp only [hth]) <;> rfl) dX3_row_148
                · have nc21 : w = 2 := (nI_eq (a := w) (b := 2) (by omega) (by omega)).mp c21
                  refine lv_iload hx hb dX3_row_112 (lv_at hl 0 rfl) ?_
                  refine lv_aload_n hx hb dX3_row_114 rfl (lv_at hl 2 rfl) ?_
                  refine k_get (ci := 4) (T := TX3) (N := 13) (C := RX3) hx hb hts inX3 hown hK hP 0 rfl rfl 8 (by decide) fl70 rfl rfl dX3_row_115 ?_
                  refine lv_icmp_ge (tgt := 125) hx hb dX3_row_118 (by decide) (fun c22 => ?_) (fun c22 => ?_)
                  · have nc22 : S ≤ (nb - 1) := (nI_leI (a := S) (b := nb - 1) (by omega) (by omega)).mp c22
                    refine lv_iconst (v := 0) hx hb dX3_row_125 (by decide) ?_
                    refine lv_goto (tgt := 148) hx hb dX3_row_126 (by decide) ?_
                    exact k_iretW hx hb hr hlocks hP hS (by have hth : thRow w lk = 0 := (by simp only [thRow, if_neg c1, if_pos c2, if_pos nc16, if_pos nc17, if_neg nc19, if_neg nc20, if_pos nc21, if_pos nc22]); (simp only [hth, il0, if_true, rowN, if_neg c1, if_pos c2, if_pos nc16, if_pos nc17, if_neg nc19, if_neg nc20, if_pos nc21, if_pos nc22]) <;> rfl) (by have hth : thRow w lk = 0 := (by simp only [thRow, if_neg c1, if_pos c2, if_pos nc16, if_pos nc17, if_neg nc19, if_neg nc20, if_pos nc21, if_pos nc22]); (simp only [hth]) <;> rfl) dX3_row_148
                  · have nc22 : ¬ S ≤ (nb - 1) := fun h9 => c22 ((nI_leI (a := S) (b := nb - 1) (by omega) (by omega)).mpr h9)
                    refine lv_iconst (v := 1) hx hb dX3_row_121 (by decide) ?_
                    refine lv_goto (tgt := 148) hx hb dX3_row_122 (by decide) ?_
                    exact k_iretW hx hb hr hlocks hP hS (by have hth : thRow w lk = 0 := (by simp only [thRow, if_neg c1, if_pos c2, if_pos nc16, if_pos nc17, if_neg nc19, if_neg nc20, if_pos nc21, if_neg nc22]); (simp only [hth, il0, if_true, rowN, if_neg c1, if_pos c2, if_pos nc16, if_pos nc17, if_neg nc19, if_neg nc20, if_pos nc21, if_neg nc22]) <;> rfl) (by have hth : thRow w lk = 0 := (by simp only [thRow, if_neg c1, if_pos c2, if_pos nc16, if_pos nc17, if_neg nc19, if_neg nc20, if_pos nc21, if_neg nc22]); (simp only [hth]) <;> rfl) dX3_row_148
              · have nc20 : w = 1 := (nI_eq (a := w) (b := 1) (by omega) (by omega)).mp c20
                refine lv_aload_n hx hb dX3_row_98 rfl (lv_at hl 2 rfl) ?_
                refine lv_iload hx hb dX3_row_99 (lv_at hl 0 rfl) ?_
                refine k_afP (va_runV (rest := []) ⟨hx, hb, hml, hown, hts⟩ (m_X3_longOf l dC dI cI cJ h d1 s1 i1 b1 t1 fD fS fI fB fT n R S T bk2 up2 wr 0 (nb - 1) bk lk (by omega) hbg (by omega) hlk) (cwV 1 hts gX3_row_X3_longOf rfl rfl rfl hdv_X3_longOf ⟨Nat.le_of_ble_eq_true rfl, Nat.le_of_ble_eq_true rfl⟩) (k_preVP hK hP [0, 1, 2, 3, 4, 5] rfl 0 rfl rfl) rfl rfl hl.1 rfl (lv_room (Nat.le_of_ble_eq_true rfl)) dX3_row_101 ⟨Nat.le_of_ble_eq_true rfl, Nat.le_of_ble_eq_true rfl⟩) ?_
                refine lv_goto (tgt := 148) hx hb dX3_row_104 (by decide) ?_
                exact k_iretW hx hb hr hlocks hP hS (by have hth : thRow w lk = 0 := (by simp only [thRow, if_neg c1, if_pos c2, if_pos nc16, if_pos nc17, if_neg nc19, if_pos nc20]); (simp only [hth, il0, if_true, rowN, if_neg c1, if_pos c2, if_pos nc16, if_pos nc17, if_neg nc19, if_pos nc20]) <;> rfl) (by have hth : thRow w lk = 0 := (by simp only [thRow, if_neg c1, if_pos c2, if_pos nc16, if_pos nc17, if_neg nc19, if_pos nc20]); (simp only [hth]) <;> rfl) dX3_row_148
            · have nc19 : w = 0 := (nI_eq (a := w) (b := 0) (by omega) (by omega)).mp c19
              refine lv_aload_n hx hb dX3_row_84 rfl (lv_at hl 2 rfl) ?_
              refine lv_iload hx hb dX3_row_85 (lv_at hl 0 rfl) ?_
              refine k_afP (va_runV (rest := []) ⟨hx, hb, hml, hown, hts⟩ (m_X3_kindOf l dC dI cI cJ h d1 s1 i1 b1 t1 fD fS fI fB fT n R S T bk2 up2 wr 0 (nb - 1) bk (by omega) hbg (by omega)) (cwV 1 hts gX3_row_X3_kindOf rfl rfl rfl hdv_X3_kindOf ⟨Nat.le_of_ble_eq_true rfl, Nat.le_of_ble_eq_true rfl⟩) (k_preVP hK hP [0, 1, 2, 3, 4, 5] rfl 0 rfl rfl) rfl rfl hl.1 rfl (lv_room (Nat.le_of_ble_eq_true rfl)) dX3_row_87 ⟨Nat.le_of_ble_eq_true rfl, Nat.le_of_ble_eq_true rfl⟩) ?_
              refine lv_goto (tgt := 148) hx hb dX3_row_90 (by decide) ?_
              exact k_iretW hx hb hr hlocks hP hS (by have hth : thRow w lk = 0 := (by simp only [thRow, if_neg c1, if_pos c2, if_pos nc16, if_pos nc17, if_pos nc19]); (simp only [hth, il0, if_true, rowN, if_neg c1, if_pos c2, if_pos nc16, if_pos nc17, if_pos nc19]) <;> rfl) (by have hth : thRow w lk = 0 := (by simp only [thRow, if_neg c1, if_pos c2, if_pos nc16, if_pos nc17, if_pos nc19]); (simp only [hth]) <;> rfl) dX3_row_148
          · exact absurd c18 (by decide)
        · have nc17 : ¬ w < 10 := fun h9 => c17 ((nI_ltI (a := w) (b := 10) (by omega) (by omega)).mpr h9)
          refine lv_iload_n hx hb dX3_row_44 rfl (lv_at hl 3 rfl) ?_
          refine lv_bipush (v := 10) hx hb dX3_row_45 (by decide) ?_
          refine lv_isub hx hb dX3_row_47 ?_
          refine k_nrm (y := nI (w - 10)) (pk_sub (a := w) (b := 10) (by omega)) ?_
          refine lv_aload_n hx hb dX3_row_48 rfl (lv_at hl 1 rfl) ?_
          refine lv_iload_n hx hb dX3_row_49 rfl (lv_at hl 2 rfl) ?_
          refine lv_iconst (v := 1) hx hb dX3_row_50 (by decide) ?_
          refine lv_isub hx hb dX3_row_51 ?_
          refine k_nrm (y := nI (nb - 1)) (pk_sub (a := nb) (b := 1) (by omega)) ?_
          refine k_afP (va_runV (rest := [.int (nI (w - 10)), .ref h]) ⟨hx, hb, hml, hown, hts⟩ (m_X3_longOf l dC dI cI cJ h d1 s1 i1 b1 t1 fD fS fI fB fT n R S T bk2 up2 wr th (nb - 1) bk lk (by omega) hbg (by omega) hlk) (cwV 1 hts gX3_row_X3_longOf rfl rfl rfl hdv_X3_longOf ⟨Nat.le_of_ble_eq_true rfl, Nat.le_of_ble_eq_true rfl⟩) (k_preVP hK hP [0, 1, 2, 3, 4, 5] rfl 0 rfl rfl) rfl rfl hl.1 rfl (lv_room (Nat.le_of_ble_eq_true rfl)) dX3_row_52 ⟨Nat.le_of_ble_eq_true rfl, Nat.le_of_ble_eq_true rfl⟩) ?_
          refine lv_icmp_lt (tgt := 62) hx hb dX3_row_55 (by decide) (fun c23 => ?_) (fun c23 => ?_)
          · have nc23 : (w - 10) < lk := (nI_ltI (a := w - 10) (b := lk) (by omega) (by omega)).mp c23
            refine lv_iconst (v := 0) hx hb dX3_row_62 (by decide) ?_
            refine k_putf (ws' := [(h, .inr (4, [.int (nI (32 * n)), .ref d1, .ref s1, .int bk2, .int up2, .ref i1, .ref b1, .int (nI R), .int (nI S), .int wr, .int 0, .ref t1, .int (nI T)])), (d1, .inl (cI, 2048, .inl fD)), (s1, .inl (cI, 2048, .inl fS)), (i1, .inl (cI, 2080, .inl fI)), (b1, .inl (cI, 240, .inl fB)), (t1, .inl (cI, 20, .inl fT))]) (ci := 4) (T := TX3) (N := 13) (C := RX3) (ty := .int) hx hb hts inX3 tyX3 tyX3_ok nmX3 hown hK hP hD hS 0 rfl rfl 10 (by decide) fl33 rfl rfl rfl rfl rfl (Nat.le_of_ble_eq_true rfl) dX3_row_63 rfl (fun H locs hP hD hS => ?_)
            refine lv_aload_n hx hb dX3_row_66 rfl (lv_at hl 1 rfl) ?_
            refine k_get (ci := 4) (T := TX3) (N := 13) (C := RX3) hx hb hts inX3 hown hK hP 0 rfl rfl 10 (by decide) fl33 rfl rfl dX3_row_67 ?_
            refine lv_if_eq (tgt := 75) hx hb dX3_row_70 (by decide) (fun c24 => ?_) (fun c24 => ?_)
            · refine lv_iload_n hx hb dX3_row_75 rfl (lv_at hl 2 rfl) ?_
              refine lv_iconst (v := 1) hx hb dX3_row_76 (by decide) ?_
              refine lv_isub hx hb dX3_row_77 ?_
              refine k_nrm (y := nI (nb - 1)) (pk_sub (a := nb) (b := 1) (by omega)) ?_
              refine lv_istore (lv' := [(4, .int (nI (nb - 1))), (3, .int (mWithin (nI nb) 1 (nI R))), (0, .ref h), (1, .int (nI nb)), (2, .int (nI w))]) hx hb dX3_row_78 hl (by decide) rfl (fun ls hl => ?_)
              refine lv_iload_n hx hb dX3_row_80 rfl (lv_at hl 4 rfl) ?_
              refine lv_if_ne (tgt := 93) hx hb dX3_row_81 (by decide) (fun c25 => ?_) (fun c25 => ?_)
              · have nc25 : ¬ w = 0 := fun h9 => c25 ((nI_eq (a := w) (b := 0) (by omega) (by omega)).mpr h9)
                refine lv_iload_n hx hb dX3_row_93 rfl (lv_at hl 4 rfl) ?_
                refine lv_iconst (v := 1) hx hb dX3_row_94 (by decide) ?_
                refine lv_icmp_ne (tgt := 107) hx hb dX3_row_95 (by decide) (fun c26 => ?_) (fun c26 => ?_)
                · have nc26 : ¬ w = 1 := fun h9 => c26 ((nI_eq (a := w) (b := 1) (by omega) (by omega)).mpr h9)
                  refine lv_iload_n hx hb dX3_row_107 rfl (lv_at hl 4 rfl) ?_
                  refine lv_iconst (v := 2) hx hb dX3_row_108 (by decide) ?_
                  refine lv_icmp_ne (tgt := 129) hx hb dX3_row_109 (by decide) (fun c27 => ?_) (fun c27 => ?_)
                  · have nc27 : ¬ w = 2 := fun h9 => c27 ((nI_eq (a := w) (b := 2) (by omega) (by omega)).mpr h9)
                    refine lv_aload_n hx hb dX3_row_129 rfl (lv_at hl 2 rfl) ?_
                    refine k_get (ci := 4) (T := TX3) (N := 13) (C := RX3) hx hb hts inX3 hown hK hP 0 rfl rfl 5 (by decide) fl20 rfl rfl dX3_row_130 ?_
                    refine lv_aload_n hx hb dX3_row_133 rfl (lv_at hl 2 rfl) ?_
                    refine k_get (ci := 4) (T := TX3) (N := 13) (C := RX3) hx hb hts inX3 hown hK hP 0 rfl rfl 6 (by decide) fl23 rfl rfl dX3_row_134 ?_
                    refine lv_iload hx hb dX3_row_137 (lv_at hl 0 rfl) ?_
                    refine k_ialdn (i := nb - 1) hx hb hK hP 4 rfl (by omega) (by decide) dX3_row_139 ?_
                    refine k_nrm (y := nI bk) hbg ?_
                    refine lv_iconst (v := 5) hx hb dX3_row_140 (by decide) ?_
                    refine lv_iadd hx hb dX3_row_141 ?_
                    refine k_nrm (y := nI (bk + 5)) (nI_add bk 5) ?_
                    refine lv_iload_n hx hb dX3_row_142 rfl (lv_at hl 4 rfl) ?_
                    refine lv_iadd hx hb dX3_row_143 ?_
                    refine k_nrm (y := nI ((bk + 5) + w)) (nI_add (bk + 5) w) ?_
                    refine lv_bipush (v := 10) hx hb dX3_row_144 (by decide) ?_
                    refine lv_isub hx hb dX3_row_146 ?_
                    refine k_nrm (y := nI (((bk + 5) + w) - 10)) (pk_sub (a := (bk + 5) + w) (b := 10) (by omega)) ?_
                    refine k_ialdn (i := ((bk + 5) + w) - 10) hx hb hK hP 3 rfl (by omega) (by decide) dX3_row_147 ?_
                    exact k_iretW hx hb hr hlocks hP hS (by have hth : thRow w lk = 0 := (by simp only [thRow, if_neg c1, if_pos c2, if_pos nc16, if_neg nc17, if_pos nc23, if_neg nc25, if_neg nc26, if_neg nc27]); (simp only [hth, il0, if_true, rowN, if_neg c1, if_pos c2, if_pos nc16, if_neg nc17, if_pos nc23, if_neg nc25, if_neg nc26, if_neg nc27]) <;> rfl) (by have hth : thRow w lk = 0 := (by simp only [thRow, if_neg c1, if_pos c2, if_pos nc16, if_neg nc17, if_pos nc23, if_neg nc25, if_neg nc26, if_neg nc27]); (simp only [hth]) <;> rfl) dX3_row_148
                  · have nc27 : w = 2 := (nI_eq (a := w) (b := 2) (by omega) (by omega)).mp c27
                    refine lv_iload hx hb dX3_row_112 (lv_at hl 0 rfl) ?_
                    refine lv_aload_n hx hb dX3_row_114 rfl (lv_at hl 2 rfl) ?_
                    refine k_get (ci := 4) (T := TX3) (N := 13) (C := RX3) hx hb hts inX3 hown hK hP 0 rfl rfl 8 (by decide) fl70 rfl rfl dX3_row_115 ?_
                    refine lv_icmp_ge (tgt := 125) hx hb dX3_row_118 (by decide) (fun c28 => ?_) (fun c28 => ?_)
                    · have nc28 : S ≤ (nb - 1) := (nI_leI (a := S) (b := nb - 1) (by omega) (by omega)).mp c28
                      refine lv_iconst (v := 0) hx hb dX3_row_125 (by decide) ?_
                      refine lv_goto (tgt := 148) hx hb dX3_row_126 (by decide) ?_
                      exact k_iretW hx hb hr hlocks hP hS (by have hth : thRow w lk = 0 := (by simp only [thRow, if_neg c1, if_pos c2, if_pos nc16, if_neg nc17, if_pos nc23, if_neg nc25, if_neg nc26, if_pos nc27, if_pos nc28]); (simp only [hth, il0, if_true, rowN, if_neg c1, if_pos c2, if_pos nc16, if_neg nc17, if_pos nc23, if_neg nc25, if_neg nc26, if_pos nc27, if_pos nc28]) <;> rfl) (by have hth : thRow w lk = 0 := (by simp only [thRow, if_neg c1, if_pos c2, if_pos nc16, if_neg nc17, if_pos nc23, if_neg nc25, if_neg nc26, if_pos nc27, if_pos nc28]); (simp only [hth]) <;> rfl) dX3_row_148
                    · have nc28 : ¬ S ≤ (nb - 1) := fun h9 => c28 ((nI_leI (a := S) (b := nb - 1) (by omega) (by omega)).mpr h9)
                      refine lv_iconst (v := 1) hx hb dX3_row_121 (by decide) ?_
                      refine lv_goto (tgt := 148) hx hb dX3_row_122 (by decide) ?_
                      exact k_iretW hx hb hr hlocks hP hS (by have hth : thRow w lk = 0 := (by simp only [thRow, if_neg c1, if_pos c2, if_pos nc16, if_neg nc17, if_pos nc23, if_neg nc25, if_neg nc26, if_pos nc27, if_neg nc28]); (simp only [hth, il0, if_true, rowN, if_neg c1, if_pos c2, if_pos nc16, if_neg nc17, if_pos nc23, if_neg nc25, if_neg nc26, if_pos nc27, if_neg nc28]) <;> rfl) (by have hth : thRow w lk = 0 := (by simp only [thRow, if_neg c1, if_pos c2, if_pos nc16, if_neg nc17, if_pos nc23, if_neg nc25, if_neg nc26, if_pos nc27, if_neg nc28]); (simp only [hth]) <;> rfl) dX3_row_148
                · have nc26 : w = 1 := (nI_eq (a := w) (b := 1) (by omega) (by omega)).mp c26
                  refine lv_aload_n hx hb dX3_row_98 rfl (lv_at hl 2 rfl) ?_
                  refine lv_iload hx hb dX3_row_99 (lv_at hl 0 rfl) ?_
                  refine k_afP (va_runV (rest := []) ⟨hx, hb, hml, hown, hts⟩ (m_X3_longOf l dC dI cI cJ h d1 s1 i1 b1 t1 fD fS fI fB fT n R S T bk2 up2 wr 0 (nb - 1) bk lk (by omega) hbg (by omega) hlk) (cwV 1 hts gX3_row_X3_longOf rfl rfl rfl hdv_X3_longOf ⟨Nat.le_of_ble_eq_true rfl, Nat.le_of_ble_eq_true rfl⟩) (k_preVP hK hP [0, 1, 2, 3, 4, 5] rfl 0 rfl rfl) rfl rfl hl.1 rfl (lv_room (Nat.le_of_ble_eq_true rfl)) dX3_row_101 ⟨Nat.le_of_ble_eq_true rfl, Nat.le_of_ble_eq_true rfl⟩) ?_
                  refine lv_goto (tgt := 148) hx hb dX3_row_104 (by decide) ?_
                  exact k_iretW hx hb hr hlocks hP hS (by have hth : thRow w lk = 0 := (by simp only [thRow, if_neg c1, if_pos c2, if_pos nc16, if_neg nc17, if_pos nc23, if_neg nc25, if_pos nc26]); (simp only [hth, il0, if_true, rowN, if_neg c1, if_pos c2, if_pos nc16, if_neg nc17, if_pos nc23, if_neg nc25, if_pos nc26]) <;> rfl) (by have hth : thRow w lk = 0 := (by simp only [thRow, if_neg c1, if_pos c2, if_pos nc16, if_neg nc17, if_pos nc23, if_neg nc25, if_pos nc26]); (simp only [hth]) <;> rfl) dX3_row_148
              · have nc25 : w = 0 := (nI_eq (a := w) (b := 0) (by omega) (by omega)).mp c25
                refine lv_aload_n hx hb dX3_row_84 rfl (lv_at hl 2 rfl) ?_
                refine lv_iload hx hb dX3_row_85 (lv_at hl 0 rfl) ?_
                refine k_afP (va_runV (rest := []) ⟨hx, hb, hml, hown, hts⟩ (m_X3_kindOf l dC dI cI cJ h d1 s1 i1 b1 t1 fD fS fI fB fT n R S T bk2 up2 wr 0 (nb - 1) bk (by omega) hbg (by omega)) (cwV 1 hts gX3_row_X3_kindOf rfl rfl rfl hdv_X3_kindOf ⟨Nat.le_of_ble_eq_true rfl, Nat.le_of_ble_eq_true rfl⟩) (k_preVP hK hP [0, 1, 2, 3, 4, 5] rfl 0 rfl rfl) rfl rfl hl.1 rfl (lv_room (Nat.le_of_ble_eq_true rfl)) dX3_row_87 ⟨Nat.le_of_ble_eq_true rfl, Nat.le_of_ble_eq_true rfl⟩) ?_
                refine lv_goto (tgt := 148) hx hb dX3_row_90 (by decide) ?_
                exact k_iretW hx hb hr hlocks hP hS (by have hth : thRow w lk = 0 := (by simp only [thRow, if_neg c1, if_pos c2, if_pos nc16, if_neg nc17, if_pos nc23, if_pos nc25]); (simp only [hth, il0, if_true, rowN, if_neg c1, if_pos c2, if_pos nc16, if_neg nc17, if_pos nc23, if_pos nc25]) <;> rfl) (by have hth : thRow w lk = 0 := (by simp only [thRow, if_neg c1, if_pos c2, if_pos nc16, if_neg nc17, if_pos nc23, if_pos nc25]); (simp only [hth]) <;> rfl) dX3_row_148
            · exact absurd c24 (by decide)
          · have nc23 : ¬ (w - 10) < lk := fun h9 => c23 ((nI_ltI (a := w - 10) (b := lk) (by omega) (by omega)).mpr h9)
            refine lv_iconst (v := 1) hx hb dX3_row_58 (by decide) ?_
            refine lv_goto (tgt := 63) hx hb dX3_row_59 (by decide) ?_
            refine k_putf (ws' := [(h, .inr (4, [.int (nI (32 * n)), .ref d1, .ref s1, .int bk2, .int up2, .ref i1, .ref b1, .int (nI R), .int (nI S), .int wr, .int 1, .ref t1, .int (nI T)])), (d1, .inl (cI, 2048, .inl fD)), (s1, .inl (cI, 2048, .inl fS)), (i1, .inl (cI, 2080, .inl fI)), (b1, .inl (cI, 240, .inl fB)), (t1, .inl (cI, 20, .inl fT))]) (ci := 4) (T := TX3) (N := 13) (C := RX3) (ty := .int) hx hb hts inX3 tyX3 tyX3_ok nmX3 hown hK hP hD hS 0 rfl rfl 10 (by decide) fl33 rfl rfl rfl rfl rfl (Nat.le_of_ble_eq_true rfl) dX3_row_63 rfl (fun H locs hP hD hS => ?_)
            refine lv_aload_n hx hb dX3_row_66 rfl (lv_at hl 1 rfl) ?_
            refine k_get (ci := 4) (T := TX3) (N := 13) (C := RX3) hx hb hts inX3 hown hK hP 0 rfl rfl 10 (by decide) fl33 rfl rfl dX3_row_67 ?_
            refine lv_if_eq (tgt := 75) hx hb dX3_row_70 (by decide) (fun c29 => ?_) (fun c29 => ?_)
            · exact absurd c29 (by decide)
            · refine lv_iconst (v := 0) hx hb dX3_row_73 (by decide) ?_
              exact k_iretW hx hb hr hlocks hP hS (by have hth : thRow w lk = 1 := (by simp only [thRow, if_neg c1, if_pos c2, if_pos nc16, if_neg nc17, if_neg nc23]); (simp only [hth, il1, il2, if_false]) <;> rfl) (by have hth : thRow w lk = 1 := (by simp only [thRow, if_neg c1, if_pos c2, if_pos nc16, if_neg nc17, if_neg nc23]); (simp only [hth, il1, il2, if_false]) <;> rfl) dX3_row_74
      · have nc16 : ¬ 10 ≤ w := fun h9 => c16 ((nI_leI (a := 10) (b := w) (by omega) (by omega)).mpr h9)
        refine lv_iconst (v := 2) hx hb dX3_row_34 (by decide) ?_
        refine lv_goto (tgt := 63) hx hb dX3_row_35 (by decide) ?_
        refine k_putf (ws' := [(h, .inr (4, [.int (nI (32 * n)), .ref d1, .ref s1, .int bk2, .int up2, .ref i1, .ref b1, .int (nI R), .int (nI S), .int wr, .int 2, .ref t1, .int (nI T)])), (d1, .inl (cI, 2048, .inl fD)), (s1, .inl (cI, 2048, .inl fS)), (i1, .inl (cI, 2080, .inl fI)), (b1, .inl (cI, 240, .inl fB)), (t1, .inl (cI, 20, .inl fT))]) (ci := 4) (T := TX3) (N := 13) (C := RX3) (ty := .int) hx hb hts inX3 tyX3 tyX3_ok nmX3 hown hK hP hD hS 0 rfl rfl 10 (by decide) fl33 rfl rfl rfl rfl rfl (Nat.le_of_ble_eq_true rfl) dX3_row_63 rfl (fun H locs hP hD hS => ?_)
        refine lv_aload_n hx hb dX3_row_66 rfl (lv_at hl 1 rfl) ?_
        refine k_get (ci := 4) (T := TX3) (N := 13) (C := RX3) hx hb hts inX3 hown hK hP 0 rfl rfl 10 (by decide) fl33 rfl rfl dX3_row_67 ?_
        refine lv_if_eq (tgt := 75) hx hb dX3_row_70 (by decide) (fun c30 => ?_) (fun c30 => ?_)
        · exact absurd c30 (by decide)
        · refine lv_iconst (v := 0) hx hb dX3_row_73 (by decide) ?_
          exact k_iretW hx hb hr hlocks hP hS (by have hth : thRow w lk = 2 := (by simp only [thRow, if_neg c1, if_pos c2, if_neg nc16]); (simp only [hth, il1, il2, if_false]) <;> rfl) (by have hth : thRow w lk = 2 := (by simp only [thRow, if_neg c1, if_pos c2, if_neg nc16]); (simp only [hth, il1, il2, if_false]) <;> rfl) dX3_row_74
  · exact absurd c1 hin
set_option maxHeartbeats 4000000 in
set_option maxRecDepth 100000 in
theorem m_X3_rowX (l : Launch) (dC : Nat → ClassId) (dI : Nat → Nat → Nat) (cI cJ : ClassId) (h : Nat) (d1 : Nat) (s1 : Nat) (i1 : Nat) (b1 : Nat) (t1 : Nat) (fD : Nat → Int32) (fS : Nat → Int32) (fI : Nat → Int32) (fB : Nat → Int32) (fT : Nat → Int32) (n : Nat) (R : Nat) (S : Nat) (T : Nat) (bk2 : Int32) (up2 : Int32) (wr : Int32) (th : Int32) (number : Int32) (what : Int32) (hin : mWithin number 1 (nI R) = 0) : cW l yX3_row wsX3_row ({ frames := 1, cells := 0, slots := 0, locals := 22 }) dC dI cI cJ [(h, .inr (4, [.int (nI (32 * n)), .ref d1, .ref s1, .int bk2, .int up2, .ref i1, .ref b1, .int (nI R), .int (nI S), .int wr, .int th, .ref t1, .int (nI T)])), (d1, .inl (cI, 2048, .inl fD)), (s1, .inl (cI, 2048, .inl fS)), (i1, .inl (cI, 2080, .inl fI)), (b1, .inl (cI, 240, .inl fB)), (t1, .inl (cI, 20, .inl fT))] [(h, .inr (4, [.int (nI (32 * n)), .ref d1, .ref s1, .int bk2, .int up2, .ref i1, .ref b1, .int (nI R), .int (nI S), .int wr, .int 1, .ref t1, .int (nI T)])), (d1, .inl (cI, 2048, .inl fD)), (s1, .inl (cI, 2048, .inl fS)), (i1, .inl (cI, 2080, .inl fI)), (b1, .inl (cI, 240, .inl fB)), (t1, .inl (cI, 20, .inl fT))] [h, d1, s1, i1, b1, t1] [.ref h, .int number, .int what] (some (.int 0)) := by
  refine Met.ofW (cc := cX3_row) (maxL := 5) (ret := (some .int)) (by decide) rfl ?_
  intro p e s m args below meth c s₁ B hml hv
  obtain ⟨rfl, hP, hK, hD0⟩ := hv
  have hx := B.exec
  have hb := B.bytes
  have hr := B.returns
  have hts := atoms_spec (ws := wsX3_row) B.pre
  have hown : s.vm.findClass RX3 = some m.cls := findClass_of_methodNamed B.named
  have hlocks := B.notSynchronized
  have inX3 : ∀ w ∈ wsX30, w ∈ wsX3_row := fun w h => (List.mem_cons_of_mem _ (List.mem_append_right _ h))
  have fl33 := hts (.fieldLink RX3 33 "StockLogModel" "thrown" "I") (by decide +kernel)
  have fl41 := hts (.fieldLink RX3 41 "StockLogModel" "rows" "I") (by decide +kernel)
  have hD : va_D (mA [h, d1, s1, i1, b1, t1]) [(h, .inr (4, [.int (nI (32 * n)), .ref d1, .ref s1, .int bk2, .int up2, .ref i1, .ref b1, .int (nI R), .int (nI S), .int wr, .int th, .ref t1, .int (nI T)])), (d1, .inl (cI, 2048, .inl fD)), (s1, .inl (cI, 2048, .inl fS)), (i1, .inl (cI, 2080, .inl fI)), (b1, .inl (cI, 240, .inl fB)), (t1, .inl (cI, 20, .inl fT))] := k_Dw hD0 rfl
  have hS : va_S (mA [h, d1, s1, i1, b1, t1]) s.heap s.heap [] := va_S.rf
  have hl := lv_entry ([.ref h, .int number, .int what]) (n := 5) (Nat.le_of_ble_eq_true rfl)
  rw [lg_entry_eq]
  generalize (lg_sl ([.ref h, .int number, .int what]) ++ List.replicate (5 - (lg_sl ([.ref h, .int number, .int what])).length) Slot.unset).toArray = ls at hl ⊢
  have hl : lv_has ls 5 [(0, .ref h), (1, .int number), (2, .int what)] := hl
  refine lv_iload_n hx hb dX3_row_0 rfl (lv_at hl 1 rfl) ?_
  refine lv_iconst (v := 1) hx hb dX3_row_1 (by decide) ?_
  refine lv_aload_n hx hb dX3_row_2 rfl (lv_at hl 0 rfl) ?_
  refine k_get (ci := 4) (T := TX3) (N := 13) (C := RX3) hx hb hts inX3 hown hK hP 0 rfl rfl 7 (by decide) fl41 rfl rfl dX3_row_3 ?_
  refine k_afP (va_runS (rest := []) ⟨hx, hb, hml, hown, hts⟩ (m_X3_within l dC dI cI cJ number 1 (nI R) ) (cwS 3 hts gX3_row_X3_within rfl rfl rfl hds_X3_within ⟨Nat.le_of_ble_eq_true rfl, Nat.le_of_ble_eq_true rfl⟩) (k_preSP hK hP [] rfl) rfl rfl hl.1 rfl (lv_room (Nat.le_of_ble_eq_true rfl)) dX3_row_6 ⟨Nat.le_of_ble_eq_true rfl, Nat.le_of_ble_eq_true rfl⟩) ?_
  refine lv_istore_n (lv' := [(3, .int (mWithin number 1 (nI R))), (0, .ref h), (1, .int number), (2, .int what)]) hx hb dX3_row_9 rfl hl (by decide) rfl (fun ls hl => ?_)
  refine lv_aload_n hx hb dX3_row_10 rfl (lv_at hl 1 rfl) ?_
  refine lv_iload_n hx hb dX3_row_11 rfl (lv_at hl 0 rfl) ?_
  refine lv_if_ne (tgt := 19) hx hb dX3_row_12 (by decide) (fun c1 => ?_) (fun c1 => ?_)
  · exact absurd hin c1
  · refine lv_iconst (v := 1) hx hb dX3_row_15 (by decide) ?_
    refine lv_goto (tgt := 63) hx hb dX3_row_16 (by decide) ?_
    refine k_putf (ws' := [(h, .inr (4, [.int (nI (32 * n)), .ref d1, .ref s1, .int bk2, .int up2, .ref i1, .ref b1, .int (nI R), .int (nI S), .int wr, .int 1, .ref t1, .int (nI T)])), (d1, .inl (cI, 2048, .inl fD)), (s1, .inl (cI, 2048, .inl fS)), (i1, .inl (cI, 2080, .inl fI)), (b1, .inl (cI, 240, .inl fB)), (t1, .inl (cI, 20, .inl fT))]) (ci := 4) (T := TX3) (N := 13) (C := RX3) (ty := .int) hx hb hts inX3 tyX3 tyX3_ok nmX3 hown hK hP hD hS 0 rfl rfl 10 (by decide) fl33 rfl rfl rfl rfl rfl (Nat.le_of_ble_eq_true rfl) dX3_row_63 rfl (fun H locs hP hD hS => ?_)
    refine lv_aload_n hx hb dX3_row_66 rfl (lv_at hl 1 rfl) ?_
    refine k_get (ci := 4) (T := TX3) (N := 13) (C := RX3) hx hb hts inX3 hown hK hP 0 rfl rfl 10 (by decide) fl33 rfl rfl dX3_row_67 ?_
    refine lv_if_eq (tgt := 75) hx hb dX3_row_70 (by decide) (fun c2 => ?_) (fun c2 => ?_)
    · exact absurd c2 (by decide)
    · refine lv_iconst (v := 0) hx hb dX3_row_73 (by decide) ?_
      exact k_iretW hx hb hr hlocks hP hS rfl rfl dX3_row_74
set_option maxHeartbeats 4000000 in
set_option maxRecDepth 100000 in
theorem m_X3_rowY (l : Launch) (dC : Nat → ClassId) (dI : Nat → Nat → Nat) (cI cJ : ClassId) (h : Nat) (d1 : Nat) (s1 : Nat) (i1 : Nat) (b1 : Nat) (t1 : Nat) (fD : Nat → Int32) (fS : Nat → Int32) (fI : Nat → Int32) (fB : Nat → Int32) (fT : Nat → Int32) (n : Nat) (R : Nat) (S : Nat) (T : Nat) (bk2 : Int32) (up2 : Int32) (wr : Int32) (th : Int32) (nb : Nat) (what : Int32) (hin : ¬ mWithin (nI nb) 1 (nI R) = 0) (hw0 : mWithin what 0 2 = 0) (hw1 : ¬ 10 ≤ what) : cW l yX3_row wsX3_row ({ frames := 1, cells := 0, slots := 0, locals := 22 }) dC dI cI cJ [(h, .inr (4, [.int (nI (32 * n)), .ref d1, .ref s1, .int bk2, .int up2, .ref i1, .ref b1, .int (nI R), .int (nI S), .int wr, .int th, .ref t1, .int (nI T)])), (d1, .inl (cI, 2048, .inl fD)), (s1, .inl (cI, 2048, .inl fS)), (i1, .inl (cI, 2080, .inl fI)), (b1, .inl (cI, 240, .inl fB)), (t1, .inl (cI, 20, .inl fT))] [(h, .inr (4, [.int (nI (32 * n)), .ref d1, .ref s1, .int bk2, .int up2, .ref i1, .ref b1, .int (nI R), .int (nI S), .int wr, .int 2, .ref t1, .int (nI T)])), (d1, .inl (cI, 2048, .inl fD)), (s1, .inl (cI, 2048, .inl fS)), (i1, .inl (cI, 2080, .inl fI)), (b1, .inl (cI, 240, .inl fB)), (t1, .inl (cI, 20, .inl fT))] [h, d1, s1, i1, b1, t1] [.ref h, .int (nI nb), .int what] (some (.int 0)) := by
  refine Met.ofW (cc := cX3_row) (maxL := 5) (ret := (some .int)) (by decide) rfl ?_
  intro p e s m args below meth c s₁ B hml hv
  obtain ⟨rfl, hP, hK, hD0⟩ := hv
  have hx := B.exec
  have hb := B.bytes
  have hr := B.returns
  have hts := atoms_spec (ws := wsX3_row) B.pre
  have hown : s.vm.findClass RX3 = some m.cls := findClass_of_methodNamed B.named
  have hlocks := B.notSynchronized
  have inX3 : ∀ w ∈ wsX30, w ∈ wsX3_row := fun w h => (List.mem_cons_of_mem _ (List.mem_append_right _ h))
  have fl33 := hts (.fieldLink RX3 33 "StockLogModel" "thrown" "I") (by decide +kernel)
  have fl41 := hts (.fieldLink RX3 41 "StockLogModel" "rows" "I") (by decide +kernel)
  have hD : va_D (mA [h, d1, s1, i1, b1, t1]) [(h, .inr (4, [.int (nI (32 * n)), .ref d1, .ref s1, .int bk2, .int up2, .ref i1, .ref b1, .int (nI R), .int (nI S), .int wr, .int th, .ref t1, .int (nI T)])), (d1, .inl (cI, 2048, .inl fD)), (s1, .inl (cI, 2048, .inl fS)), (i1, .inl (cI, 2080, .inl fI)), (b1, .inl (cI, 240, .inl fB)), (t1, .inl (cI, 20, .inl fT))] := k_Dw hD0 rfl
  have hS : va_S (mA [h, d1, s1, i1, b1, t1]) s.heap s.heap [] := va_S.rf
  have hl := lv_entry ([.ref h, .int (nI nb), .int what]) (n := 5) (Nat.le_of_ble_eq_true rfl)
  rw [lg_entry_eq]
  generalize (lg_sl ([.ref h, .int (nI nb), .int what]) ++ List.replicate (5 - (lg_sl ([.ref h, .int (nI nb), .int what])).length) Slot.unset).toArray = ls at hl ⊢
  have hl : lv_has ls 5 [(0, .ref h), (1, .int (nI nb)), (2, .int what)] := hl
  refine lv_iload_n hx hb dX3_row_0 rfl (lv_at hl 1 rfl) ?_
  refine lv_iconst (v := 1) hx hb dX3_row_1 (by decide) ?_
  refine lv_aload_n hx hb dX3_row_2 rfl (lv_at hl 0 rfl) ?_
  refine k_get (ci := 4) (T := TX3) (N := 13) (C := RX3) hx hb hts inX3 hown hK hP 0 rfl rfl 7 (by decide) fl41 rfl rfl dX3_row_3 ?_
  refine k_afP (va_runS (rest := []) ⟨hx, hb, hml, hown, hts⟩ (m_X3_within l dC dI cI cJ (nI nb) 1 (nI R) ) (cwS 3 hts gX3_row_X3_within rfl rfl rfl hds_X3_within ⟨Nat.le_of_ble_eq_true rfl, Nat.le_of_ble_eq_true rfl⟩) (k_preSP hK hP [] rfl) rfl rfl hl.1 rfl (lv_room (Nat.le_of_ble_eq_true rfl)) dX3_row_6 ⟨Nat.le_of_ble_eq_true rfl, Nat.le_of_ble_eq_true rfl⟩) ?_
  refine lv_istore_n (lv' := [(3, .int (mWithin (nI nb) 1 (nI R))), (0, .ref h), (1, .int (nI nb)), (2, .int what)]) hx hb dX3_row_9 rfl hl (by decide) rfl (fun ls hl => ?_)
  refine lv_aload_n hx hb dX3_row_10 rfl (lv_at hl 1 rfl) ?_
  refine lv_iload_n hx hb dX3_row_11 rfl (lv_at hl 0 rfl) ?_
  refine lv_if_ne (tgt := 19) hx hb dX3_row_12 (by decide) (fun c1 => ?_) (fun c1 => ?_)
  · refine lv_iload_n hx hb dX3_row_19 rfl (lv_at hl 3 rfl) ?_
    refine lv_iconst (v := 0) hx hb dX3_row_20 (by decide) ?_
    refine lv_iconst (v := 2) hx hb dX3_row_21 (by decide) ?_
    refine k_afP (va_runS (rest := [.ref h]) ⟨hx, hb, hml, hown, hts⟩ (m_X3_within l dC dI cI cJ what 0 2 ) (cwS 3 hts gX3_row_X3_within rfl rfl rfl hds_X3_within ⟨Nat.le_of_ble_eq_true rfl, Nat.le_of_ble_eq_true rfl⟩) (k_preSP hK hP [] rfl) rfl rfl hl.1 rfl (lv_room (Nat.le_of_ble_eq_true rfl)) dX3_row_22 ⟨Nat.le_of_ble_eq_true rfl, Nat.le_of_ble_eq_true rfl⟩) ?_
    refine lv_if_ne (tgt := 38) hx hb dX3_row_25 (by decide) (fun c2 => ?_) (fun c2 => ?_)
    · exact absurd hw0 c2
    · refine lv_iload_n hx hb dX3_row_28 rfl (lv_at hl 3 rfl) ?_
      refine lv_bipush (v := 10) hx hb dX3_row_29 (by decide) ?_
      refine lv_icmp_ge (tgt := 38) hx hb dX3_row_31 (by decide) (fun c3 => ?_) (fun c3 => ?_)
      · exact absurd c3 hw1
      · refine lv_iconst (v := 2) hx hb dX3_row_34 (by decide) ?_
        refine lv_goto (tgt := 63) hx hb dX3_row_35 (by decide) ?_
        refine k_putf (ws' := [(h, .inr (4, [.int (nI (32 * n)), .ref d1, .ref s1, .int bk2, .int up2, .ref i1, .ref b1, .int (nI R), .int (nI S), .int wr, .int 2, .ref t1, .int (nI T)])), (d1, .inl (cI, 2048, .inl fD)), (s1, .inl (cI, 2048, .inl fS)), (i1, .inl (cI, 2080, .inl fI)), (b1, .inl (cI, 240, .inl fB)), (t1, .inl (cI, 20, .inl fT))]) (ci := 4) (T := TX3) (N := 13) (C := RX3) (ty := .int) hx hb hts inX3 tyX3 tyX3_ok nmX3 hown hK hP hD hS 0 rfl rfl 10 (by decide) fl33 rfl rfl rfl rfl rfl (Nat.le_of_ble_eq_true rfl) dX3_row_63 rfl (fun H locs hP hD hS => ?_)
        refine lv_aload_n hx hb dX3_row_66 rfl (lv_at hl 1 rfl) ?_
        refine k_get (ci := 4) (T := TX3) (N := 13) (C := RX3) hx hb hts inX3 hown hK hP 0 rfl rfl 10 (by decide) fl33 rfl rfl dX3_row_67 ?_
        refine lv_if_eq (tgt := 75) hx hb dX3_row_70 (by decide) (fun c4 => ?_) (fun c4 => ?_)
        · exact absurd c4 (by decide)
        · refine lv_iconst (v := 0) hx hb dX3_row_73 (by decide) ?_
          exact k_iretW hx hb hr hlocks hP hS rfl rfl dX3_row_74
  · exact absurd c1 hin
set_option maxHeartbeats 4000000 in
set_option maxRecDepth 100000 in
theorem m_X3_find (l : Launch) (dC : Nat → ClassId) (dI : Nat → Nat → Nat) (cI cJ : ClassId) (h : Nat) (d1 : Nat) (s1 : Nat) (i1 : Nat) (b1 : Nat) (t1 : Nat) (fD : Nat → Int32) (fS : Nat → Int32) (fI : Nat → Int32) (fB : Nat → Int32) (fT : Nat → Int32) (n : Nat) (R : Nat) (S : Nat) (T : Nat) (bk2 : Int32) (up2 : Int32) (wr : Int32) (th : Int32) (Bg : Nat → Nat) (kind : Int32) (i : Int32) (hn : n ≤ 64) (hR9 : R ≤ 227) (hB : ∀ j, j < R → fB j = nI (Bg j) ∧ Bg j + 4 < 2080) : cW l yX3_find wsX3_find ({ frames := 1, cells := 0, slots := 0, locals := 22 }) dC dI cI cJ [(h, .inr (4, [.int (nI (32 * n)), .ref d1, .ref s1, .int bk2, .int up2, .ref i1, .ref b1, .int (nI R), .int (nI S), .int wr, .int th, .ref t1, .int (nI T)])), (d1, .inl (cI, 2048, .inl fD)), (s1, .inl (cI, 2048, .inl fS)), (i1, .inl (cI, 2080, .inl fI)), (b1, .inl (cI, 240, .inl fB)), (t1, .inl (cI, 20, .inl fT))] [(h, .inr (4, [.int (nI (32 * n)), .ref d1, .ref s1, .int bk2, .int up2, .ref i1, .ref b1, .int (nI R), .int (nI S), .int wr, .int (thFind kind i), .ref t1, .int (nI T)])), (d1, .inl (cI, 2048, .inl fD)), (s1, .inl (cI, 2048, .inl fS)), (i1, .inl (cI, 2080, .inl fI)), (b1, .inl (cI, 240, .inl fB)), (t1, .inl (cI, 20, .inl fT))] [h, d1, s1, i1, b1, t1] [.ref h, .int kind, .int i] (some (.int (if thFind kind i = 0 then fdN fI Bg kind i 0 0 R else 0))) := by
  refine Met.ofW (cc := cX3_find) (maxL := 5) (ret := (some .int)) (by decide) rfl ?_
  intro p e s m args below meth c s₁ B hml hv
  obtain ⟨rfl, hP, hK, hD0⟩ := hv
  have hx := B.exec
  have hb := B.bytes
  have hr := B.returns
  have hts := atoms_spec (ws := wsX3_find) B.pre
  have hown : s.vm.findClass RX3 = some m.cls := findClass_of_methodNamed B.named
  have hlocks := B.notSynchronized
  have inX3 : ∀ w ∈ wsX30, w ∈ wsX3_find := fun w h => (List.mem_cons_of_mem _ (List.mem_append_right _ h))
  have fl33 := hts (.fieldLink RX3 33 "StockLogModel" "thrown" "I") (by decide +kernel)
  have fl41 := hts (.fieldLink RX3 41 "StockLogModel" "rows" "I") (by decide +kernel)
  have hD : va_D (mA [h, d1, s1, i1, b1, t1]) [(h, .inr (4, [.int (nI (32 * n)), .ref d1, .ref s1, .int bk2, .int up2, .ref i1, .ref b1, .int (nI R), .int (nI S), .int wr, .int th, .ref t1, .int (nI T)])), (d1, .inl (cI, 2048, .inl fD)), (s1, .inl (cI, 2048, .inl fS)), (i1, .inl (cI, 2080, .inl fI)), (b1, .inl (cI, 240, .inl fB)), (t1, .inl (cI, 20, .inl fT))] := k_Dw hD0 rfl
  have hS : va_S (mA [h, d1, s1, i1, b1, t1]) s.heap s.heap [] := va_S.rf
  have hl := lv_entry ([.ref h, .int kind, .int i]) (n := 5) (Nat.le_of_ble_eq_true rfl)
  rw [lg_entry_eq]
  generalize (lg_sl ([.ref h, .int kind, .int i]) ++ List.replicate (5 - (lg_sl ([.ref h, .int kind, .int i])).length) Slot.unset).toArray = ls at hl ⊢
  have hl : lv_has ls 5 [(0, .ref h), (1, .int kind), (2, .int i)] := hl
  refine lv_aload_n hx hb dX3_find_0 rfl (lv_at hl 0 rfl) ?_
  refine lv_iload_n hx hb dX3_find_1 rfl (lv_at hl 1 rfl) ?_
  refine lv_iconst (v := 1) hx hb dX3_find_2 (by decide) ?_
  refine lv_iconst (v := 5) hx hb dX3_find_3 (by decide) ?_
  refine k_afP (va_runS (rest := [.ref h]) ⟨hx, hb, hml, hown, hts⟩ (m_X3_within l dC dI cI cJ kind 1 5 ) (cwS 3 hts gX3_find_X3_within rfl rfl rfl hds_X3_within ⟨Nat.le_of_ble_eq_true rfl, Nat.le_of_ble_eq_true rfl⟩) (k_preSP hK hP [] rfl) rfl rfl hl.1 rfl (lv_room (Nat.le_of_ble_eq_true rfl)) dX3_find_4 ⟨Nat.le_of_ble_eq_true rfl, Nat.le_of_ble_eq_true rfl⟩) ?_
  refine lv_if_eq (tgt := 18) hx hb dX3_find_7 (by decide) (fun c1 => ?_) (fun c1 => ?_)
  · refine lv_iconst (v := 1) hx hb dX3_find_18 (by decide) ?_
    refine k_putf (ws' := [(h, .inr (4, [.int (nI (32 * n)), .ref d1, .ref s1, .int bk2, .int up2, .ref i1, .ref b1, .int (nI R), .int (nI S), .int wr, .int 1, .ref t1, .int (nI T)])), (d1, .inl (cI, 2048, .inl fD)), (s1, .inl (cI, 2048, .inl fS)), (i1, .inl (cI, 2080, .inl fI)), (b1, .inl (cI, 240, .inl fB)), (t1, .inl (cI, 20, .inl fT))]) (ci := 4) (T := TX3) (N := 13) (C := RX3) (ty := .int) hx hb hts inX3 tyX3 tyX3_ok nmX3 hown hK hP hD hS 0 rfl rfl 10 (by decide) fl33 rfl rfl rfl rfl rfl (Nat.le_of_ble_eq_true rfl) dX3_find_19 rfl (fun H locs hP hD hS => ?_)
    refine lv_aload_n hx hb dX3_find_22 rfl (lv_at hl 0 rfl) ?_
    refine k_get (ci := 4) (T := TX3) (N := 13) (C := RX3) hx hb hts inX3 hown hK hP 0 rfl rfl 10 (by decide) fl33 rfl rfl dX3_find_23 ?_
    refine lv_if_eq (tgt := 31) hx hb dX3_find_26 (by decide) (fun c2 => ?_) (fun c2 => ?_)
    · exact absurd c2 (by decide)
    · refine lv_iconst (v := 0) hx hb dX3_find_29 (by decide) ?_
      exact k_iretW hx hb hr hlocks hP hS (by have hth : thFind kind i = 1 := (by simp only [thFind, if_pos c1]); (simp only [hth, il1, if_false]) <;> rfl) (by have hth : thFind kind i = 1 := (by simp only [thFind, if_pos c1]); (simp only [hth, il1, if_false]) <;> rfl) dX3_find_30
  · refine lv_iload_n hx hb dX3_find_10 rfl (lv_at hl 2 rfl) ?_
    refine lv_if_lt (tgt := 18) hx hb dX3_find_11 (by decide) (fun c3 => ?_) (fun c3 => ?_)
    · refine lv_iconst (v := 1) hx hb dX3_find_18 (by decide) ?_
      refine k_putf (ws' := [(h, .inr (4, [.int (nI (32 * n)), .ref d1, .ref s1, .int bk2, .int up2, .ref i1, .ref b1, .int (nI R), .int (nI S), .int wr, .int 1, .ref t1, .int (nI T)])), (d1, .inl (cI, 2048, .inl fD)), (s1, .inl (cI, 2048, .inl fS)), (i1, .inl (cI, 2080, .inl fI)), (b1, .inl (cI, 240, .inl fB)), (t1, .inl (cI, 20, .inl fT))]) (ci := 4) (T := TX3) (N := 13) (C := RX3) (ty := .int) hx hb hts inX3 tyX3 tyX3_ok nmX3 hown hK hP hD hS 0 rfl rfl 10 (by decide) fl33 rfl rfl rfl rfl rfl (Nat.le_of_ble_eq_true rfl) dX3_find_19 rfl (fun H locs hP hD hS => ?_)
      refine lv_aload_n hx hb dX3_find_22 rfl (lv_at hl 0 rfl) ?_
      refine k_get (ci := 4) (T := TX3) (N := 13) (C := RX3) hx hb hts inX3 hown hK hP 0 rfl rfl 10 (by decide) fl33 rfl rfl dX3_find_23 ?_
      refine lv_if_eq (tgt := 31) hx hb dX3_find_26 (by decide) (fun c4 => ?_) (fun c4 => ?_)
      · exact absurd c4 (by decide)
      · refine lv_iconst (v := 0) hx hb dX3_find_29 (by decide) ?_
        exact k_iretW hx hb hr hlocks hP hS (by have hth : thFind kind i = 1 := (by simp only [thFind, if_neg c1, if_pos c3]); (simp only [hth, il1, if_false]) <;> rfl) (by have hth : thFind kind i = 1 := (by simp only [thFind, if_neg c1, if_pos c3]); (simp only [hth, il1, if_false]) <;> rfl) dX3_find_30
    · refine lv_iconst (v := 0) hx hb dX3_find_14 (by decide) ?_
      refine lv_goto (tgt := 19) hx hb dX3_find_15 (by decide) ?_
      refine k_putf (ws' := [(h, .inr (4, [.int (nI (32 * n)), .ref d1, .ref s1, .int bk2, .int up2, .ref i1, .ref b1, .int (nI R), .int (nI S), .int wr, .int 0, .ref t1, .int (nI T)])), (d1, .inl (cI, 2048, .inl fD)), (s1, .inl (cI, 2048, .inl fS)), (i1, .inl (cI, 2080, .inl fI)), (b1, .inl (cI, 240, .inl fB)), (t1, .inl (cI, 20, .inl fT))]) (ci := 4) (T := TX3) (N := 13) (C := RX3) (ty := .int) hx hb hts inX3 tyX3 tyX3_ok nmX3 hown hK hP hD hS 0 rfl rfl 10 (by decide) fl33 rfl rfl rfl rfl rfl (Nat.le_of_ble_eq_true rfl) dX3_find_19 rfl (fun H locs hP hD hS => ?_)
      refine lv_aload_n hx hb dX3_find_22 rfl (lv_at hl 0 rfl) ?_
      refine k_get (ci := 4) (T := TX3) (N := 13) (C := RX3) hx hb hts inX3 hown hK hP 0 rfl rfl 10 (by decide) fl33 rfl rfl dX3_find_23 ?_
      refine lv_if_eq (tgt := 31) hx hb dX3_find_26 (by decide) (fun c5 => ?_) (fun c5 => ?_)
      · refine lv_iconst (v := 0) hx hb dX3_find_31 (by decide) ?_
        refine lv_istore_n (lv' := [(3, .int 0), (0, .ref h), (1, .int kind), (2, .int i)]) hx hb dX3_find_32 rfl hl (by decide) rfl (fun ls hl => ?_)
        refine lv_iconst (v := 0) hx hb dX3_find_33 (by decide) ?_
        refine lv_istore (lv' := [(4, .int 0), (3, .int 0), (0, .ref h), (1, .int kind), (2, .int i)]) hx hb dX3_find_34 hl (by decide) rfl (fun ls hl => ?_)
        have loop36 : ∀ (n9 : Nat) (k : Nat) (q : Nat) (H : Heap) (locs : List Loc) (ls : Array Slot), (fdN fI Bg kind i k q (R - k) = fdN fI Bg kind i 0 0 R) → (k ≤ R) → (q ≤ k) → R - k < n9 → va_P (dC, dI) vwCl [(h, .inr (4, [.int (nI (32 * n)), .ref d1, .ref s1, .int bk2, .int up2, .ref i1, .ref b1, .int (nI R), .int (nI S), .int wr, .int 0, .ref t1, .int (nI T)])), (d1, .inl (cI, 2048, .inl fD)), (s1, .inl (cI, 2048, .inl fS)), (i1, .inl (cI, 2080, .inl fI)), (b1, .inl (cI, 240, .inl fB)), (t1, .inl (cI, 20, .inl fT))] H → va_D (mA [h, d1, s1, i1, b1, t1]) [(h, .inr (4, [.int (nI (32 * n)), .ref d1, .ref s1, .int bk2, .int up2, .ref i1, .ref b1, .int (nI R), .int (nI S), .int wr, .int 0, .ref t1, .int (nI T)])), (d1, .inl (cI, 2048, .inl fD)), (s1, .inl (cI, 2048, .inl fS)), (i1, .inl (cI, 2080, .inl fI)), (b1, .inl (cI, 240, .inl fB)), (t1, .inl (cI, 20, .inl fT))] → va_S (mA [h, d1, s1, i1, b1, t1]) s.heap H locs → lv_has ls 5 [(4, .int (nI k)), (3, .int (nI q)), (0, .ref h), (1, .int kind), (2, .int i)] → W p l e (headSpec wsX3_find ({ frames := 1, cells := 0, slots := 0, locals := 22 })).room s m ([.ref h, .int kind, .int i] : List Value).toArray below meth c H locs 0 0 (MQ below (mQ dC dI [(h, .inr (4, [.int (nI (32 * n)), .ref d1, .ref s1, .int bk2, .int up2, .ref i1, .ref b1, .int (nI R), .int (nI S), .int wr, .int (thFind kind i), .ref t1, .int (nI T)])), (d1, .inl (cI, 2048, .inl fD)), (s1, .inl (cI, 2048, .inl fS)), (i1, .inl (cI, 2080, .inl fI)), (b1, .inl (cI, 240, .inl fB)), (t1, .inl (cI, 20, .inl fT))] [h, d1, s1, i1, b1, t1] (some (.int (if thFind kind i = 0 then fdN fI Bg kind i 0 0 R else 0)))) ([.ref h, .int kind, .int i] : List Value).toArray s 0 0 (mA [h, d1, s1, i1, b1, t1])) (F0 m 36 ls []) := by
          intro n9
          induction n9 with
          | zero => intro k q H locs ls hi hk2 hq2 hm; exact absurd hm (Nat.not_lt_zero _)
          | succ n9 ih =>
            intro k q H locs ls hi hk2 hq2 hm hP hD hS hl
            refine lv_iload hx hb dX3_find_36 (lv_at hl 0 rfl) ?_
            refine lv_aload_n hx hb dX3_find_38 rfl (lv_at hl 2 rfl) ?_
            refine k_get (ci := 4) (T := TX3) (N := 13) (C := RX3) hx hb hts inX3 hown hK hP 0 rfl rfl 7 (by decide) fl41 rfl rfl dX3_find_39 ?_
            refine lv_icmp_ge (tgt := 74) hx hb dX3_find_42 (by decide) (fun c6 => ?_) (fun c6 => ?_)
            · have nc6 : R ≤ k := (nI_leI (a := R) (b := k) (by omega) (by omega)).mp c6
              refine lv_iconst (v := (-1)) hx hb dX3_find_74 (by decide) ?_
              exact k_iretW hx hb hr hlocks hP hS (by have hth : thFind kind i = 0 := (by simp only [thFind, if_neg c1, if_neg c3]); (simp only [hth, il0, if_true]) <;> (rw [← hi, show R - k = 0 by omega]; rfl)) (by have hth : thFind kind i = 0 := (by simp only [thFind, if_neg c1, if_neg c3]); (simp only [hth]) <;> rfl) dX3_find_75
            · have nc6 : ¬ R ≤ k := fun h9 => c6 ((nI_leI (a := R) (b := k) (by omega) (by omega)).mpr h9)
              refine lv_aload_n hx hb dX3_find_45 rfl (lv_at hl 2 rfl) ?_
              refine lv_iload hx hb dX3_find_46 (lv_at hl 0 rfl) ?_
              refine k_afP (va_runV (rest := []) ⟨hx, hb, hml, hown, hts⟩ (m_X3_kindOf l dC dI cI cJ h d1 s1 i1 b1 t1 fD fS fI fB fT n R S T bk2 up2 wr 0 k (Bg k) (by omega) (hB k (by omega)).1 (hB k (by omega)).2) (cwV 1 hts gX3_find_X3_kindOf rfl rfl rfl hdv_X3_kindOf ⟨Nat.le_of_ble_eq_true rfl, Nat.le_of_ble_eq_true rfl⟩) (k_preVP hK hP [0, 1, 2, 3, 4, 5] rfl 0 rfl rfl) rfl rfl hl.1 rfl (lv_room (Nat.le_of_ble_eq_true rfl)) dX3_find_48 ⟨Nat.le_of_ble_eq_true rfl, Nat.le_of_ble_eq_true rfl⟩) ?_
              refine lv_iload_n hx hb dX3_find_51 rfl (lv_at hl 3 rfl) ?_
              refine lv_icmp_ne (tgt := 68) hx hb dX3_find_52 (by decide) (fun c7 => ?_) (fun c7 => ?_)
              · refine lv_iinc (v := nI (k + 1)) (lv' := [(4, .int (nI (k + 1))), (3, .int (nI q)), (0, .ref h), (1, .int kind), (2, .int i)]) hx hb dX3_find_68 hl (k := 0) rfl (nI_1 k) (by decide) rfl (fun ls hl => ?_)
                refine lv_goto (tgt := 36) hx hb dX3_find_71 (by decide) ?_
                exact ih (k + 1) q _ _ ls (by rw [← hi, show R - k = (R - (k + 1)) + 1 by omega]; simp only [fdN, if_neg c7]) (by omega) (by omega) (by omega) hP hD hS (lv_sub hl [0, 1, 2, 3, 4] rfl)
              · refine lv_iload_n hx hb dX3_find_55 rfl (lv_at hl 1 rfl) ?_
                refine lv_iload_n hx hb dX3_find_56 rfl (lv_at hl 4 rfl) ?_
                refine lv_icmp_ne (tgt := 65) hx hb dX3_find_57 (by decide) (fun c8 => ?_) (fun c8 => ?_)
                · refine lv_iinc (v := nI (q + 1)) (lv' := [(3, .int (nI (q + 1))), (4, .int (nI k)), (0, .ref h), (1, .int kind), (2, .int i)]) hx hb dX3_find_65 hl (k := 1) rfl (nI_1 q) (by decide) rfl (fun ls hl => ?_)
                  refine lv_iinc (v := nI (k + 1)) (lv' := [(4, .int (nI (k + 1))), (3, .int (nI (q + 1))), (0, .ref h), (1, .int kind), (2, .int i)]) hx hb dX3_find_68 hl (k := 1) rfl (nI_1 k) (by decide) rfl (fun ls hl => ?_)
                  refine lv_goto (tgt := 36) hx hb dX3_find_71 (by decide) ?_
                  exact ih (k + 1) (q + 1) _ _ ls (by rw [← hi, show R - k = (R - (k + 1)) + 1 by omega]; simp only [fdN, if_pos c7, if_neg c8]) (by omega) (by omega) (by omega) hP hD hS (lv_sub hl [0, 1, 2, 3, 4] rfl)
                · refine lv_iload hx hb dX3_find_60 (lv_at hl 0 rfl) ?_
                  refine lv_iconst (v := 1) hx hb dX3_find_62 (by decide) ?_
                  refine lv_iadd hx hb dX3_find_63 ?_
                  refine k_nrm (y := nI (k + 1)) (nI_add k 1) ?_
                  exact k_iretW hx hb hr hlocks hP hS (by have hth : thFind kind i = 0 := (by simp only [thFind, if_neg c1, if_neg c3]); (simp only [hth, il0, if_true]) <;> (rw [← hi, show R - k = (R - (k + 1)) + 1 by omega]; simp only [fdN, if_pos c7, if_pos c8])) (by have hth : thFind kind i = 0 := (by simp only [thFind, if_neg c1, if_neg c3]); (simp only [hth]) <;> rfl) dX3_find_64
        exact loop36 _ 0 0 _ _ ls rfl (Nat.zero_le _) (Nat.le_refl _) (Nat.lt_succ_self _) hP hD hS (lv_sub hl [0, 1, 2, 3, 4] rfl)
      · exact absurd c5 (by decide)
set_option maxHeartbeats 4000000 in
set_option maxRecDepth 100000 in
theorem m_X3_wrong (l : Launch) (dC : Nat → ClassId) (dI : Nat → Nat → Nat) (cI cJ : ClassId) (h : Nat) (d1 : Nat) (s1 : Nat) (i1 : Nat) (b1 : Nat) (t1 : Nat) (fD : Nat → Int32) (fS : Nat → Int32) (fI : Nat → Int32) (fB : Nat → Int32) (fT : Nat → Int32) (n : Nat) (R : Nat) (S : Nat) (T : Nat) (bk2 : Int32) (up2 : Int32) (wr : Int32) (th : Int32)  : cW l yX3_wrong wsX3_wrong ({ frames := 0, cells := 0, slots := 0, locals := 0 }) dC dI cI cJ [(h, .inr (4, [.int (nI (32 * n)), .ref d1, .ref s1, .int bk2, .int up2, .ref i1, .ref b1, .int (nI R), .int (nI S), .int wr, .int th, .ref t1, .int (nI T)])), (d1, .inl (cI, 2048, .inl fD)), (s1, .inl (cI, 2048, .inl fS)), (i1, .inl (cI, 2080, .inl fI)), (b1, .inl (cI, 240, .inl fB)), (t1, .inl (cI, 20, .inl fT))] [(h, .inr (4, [.int (nI (32 * n)), .ref d1, .ref s1, .int bk2, .int up2, .ref i1, .ref b1, .int (nI R), .int (nI S), .int wr, .int 0, .ref t1, .int (nI T)])), (d1, .inl (cI, 2048, .inl fD)), (s1, .inl (cI, 2048, .inl fS)), (i1, .inl (cI, 2080, .inl fI)), (b1, .inl (cI, 240, .inl fB)), (t1, .inl (cI, 20, .inl fT))] [h, d1, s1, i1, b1, t1] [.ref h] (some (.int wr)) := by
  refine Met.ofW (cc := cX3_wrong) (maxL := 1) (ret := (some .int)) (by decide) rfl ?_
  intro p e s m args below meth c s₁ B hml hv
  obtain ⟨rfl, hP, hK, hD0⟩ := hv
  have hx := B.exec
  have hb := B.bytes
  have hr := B.returns
  have hts := atoms_spec (ws := wsX3_wrong) B.pre
  have hown : s.vm.findClass RX3 = some m.cls := findClass_of_methodNamed B.named
  have hlocks := B.notSynchronized
  have inX3 : ∀ w ∈ wsX30, w ∈ wsX3_wrong := fun w h => (List.mem_cons_of_mem _ (List.mem_append_right _ h))
  have fl33 := hts (.fieldLink RX3 33 "StockLogModel" "thrown" "I") (by decide +kernel)
  have fl84 := hts (.fieldLink RX3 84 "StockLogModel" "wrong" "I") (by decide +kernel)
  have hD : va_D (mA [h, d1, s1, i1, b1, t1]) [(h, .inr (4, [.int (nI (32 * n)), .ref d1, .ref s1, .int bk2, .int up2, .ref i1, .ref b1, .int (nI R), .int (nI S), .int wr, .int th, .ref t1, .int (nI T)])), (d1, .inl (cI, 2048, .inl fD)), (s1, .inl (cI, 2048, .inl fS)), (i1, .inl (cI, 2080, .inl fI)), (b1, .inl (cI, 240, .inl fB)), (t1, .inl (cI, 20, .inl fT))] := k_Dw hD0 rfl
  have hS : va_S (mA [h, d1, s1, i1, b1, t1]) s.heap s.heap [] := va_S.rf
  have hl := lv_entry ([.ref h]) (n := 1) (Nat.le_of_ble_eq_true rfl)
  rw [lg_entry_eq]
  generalize (lg_sl ([.ref h]) ++ List.replicate (1 - (lg_sl ([.ref h])).length) Slot.unset).toArray = ls at hl ⊢
  have hl : lv_has ls 1 [(0, .ref h)] := hl
  refine lv_aload_n hx hb dX3_wrong_0 rfl (lv_at hl 0 rfl) ?_
  refine lv_iconst (v := 0) hx hb dX3_wrong_1 (by decide) ?_
  refine k_putf (ws' := [(h, .inr (4, [.int (nI (32 * n)), .ref d1, .ref s1, .int bk2, .int up2, .ref i1, .ref b1, .int (nI R), .int (nI S), .int wr, .int 0, .ref t1, .int (nI T)])), (d1, .inl (cI, 2048, .inl fD)), (s1, .inl (cI, 2048, .inl fS)), (i1, .inl (cI, 2080, .inl fI)), (b1, .inl (cI, 240, .inl fB)), (t1, .inl (cI, 20, .inl fT))]) (ci := 4) (T := TX3) (N := 13) (C := RX3) (ty := .int) hx hb hts inX3 tyX3 tyX3_ok nmX3 hown hK hP hD hS 0 rfl rfl 10 (by decide) fl33 rfl rfl rfl rfl rfl (Nat.le_of_ble_eq_true rfl) dX3_wrong_2 rfl (fun H locs hP hD hS => ?_)
  refine lv_aload_n hx hb dX3_wrong_5 rfl (lv_at hl 0 rfl) ?_
  refine k_get (ci := 4) (T := TX3) (N := 13) (C := RX3) hx hb hts inX3 hown hK hP 0 rfl rfl 9 (by decide) fl84 rfl rfl dX3_wrong_6 ?_
  exact k_iretW hx hb hr hlocks hP hS rfl rfl dX3_wrong_9
set_option maxHeartbeats 4000000 in
set_option maxRecDepth 100000 in
theorem m_X3_total (l : Launch) (dC : Nat → ClassId) (dI : Nat → Nat → Nat) (cI cJ : ClassId) (h : Nat) (d1 : Nat) (s1 : Nat) (i1 : Nat) (b1 : Nat) (t1 : Nat) (fD : Nat → Int32) (fS : Nat → Int32) (fI : Nat → Int32) (fB : Nat → Int32) (fT : Nat → Int32) (n : Nat) (R : Nat) (S : Nat) (T : Nat) (bk2 : Int32) (up2 : Int32) (wr : Int32) (th : Int32) (Bg : Nat → Nat) (ln : Nat → Nat) (kind : Int32) (from_ : Int32) (to_ : Int32) (hn : n ≤ 64) (hR9 : R ≤ 227) (hB : ∀ j, j < R → fB j = nI (Bg j) ∧ Bg j + 30 < 2080) (hln : ∀ j, j < R → fI (Bg j + 4) = nI (ln j) ∧ ln j ≤ 20) : cW l yX3_total wsX3_total ({ frames := 1, cells := 0, slots := 0, locals := 22 }) dC dI cI cJ [(h, .inr (4, [.int (nI (32 * n)), .ref d1, .ref s1, .int bk2, .int up2, .ref i1, .ref b1, .int (nI R), .int (nI S), .int wr, .int th, .ref t1, .int (nI T)])), (d1, .inl (cI, 2048, .inl fD)), (s1, .inl (cI, 2048, .inl fS)), (i1, .inl (cI, 2080, .inl fI)), (b1, .inl (cI, 240, .inl fB)), (t1, .inl (cI, 20, .inl fT))] [(h, .inr (4, [.int (nI (32 * n)), .ref d1, .ref s1, .int bk2, .int up2, .ref i1, .ref b1, .int (nI R), .int (nI S), .int wr, .int (thTotal kind), .ref t1, .int (nI T)])), (d1, .inl (cI, 2048, .inl fD)), (s1, .inl (cI, 2048, .inl fS)), (i1, .inl (cI, 2080, .inl fI)), (b1, .inl (cI, 240, .inl fB)), (t1, .inl (cI, 20, .inl fT))] [h, d1, s1, i1, b1, t1] [.ref h, .int kind, .int from_, .int to_] (some (.int (if thTotal kind = 0 then toN fI Bg ln kind from_ to_ R else 0))) := by
  refine Met.ofW (cc := cX3_total) (maxL := 7) (ret := (some .int)) (by decide) rfl ?_
  intro p e s m args below meth c s₁ B hml hv
  obtain ⟨rfl, hP, hK, hD0⟩ := hv
  have hx := B.exec
  have hb := B.bytes
  have hr := B.returns
  have hts := atoms_spec (ws := wsX3_total) B.pre
  have hown : s.vm.findClass RX3 = some m.cls := findClass_of_methodNamed B.named
  have hlocks := B.notSynchronized
  have inX3 : ∀ w ∈ wsX30, w ∈ wsX3_total := fun w h => (List.mem_cons_of_mem _ (List.mem_append_right _ h))
  have fl20 := hts (.fieldLink RX3 20 "StockLogModel" "image" "[I") (by decide +kernel)
  have fl23 := hts (.fieldLink RX3 23 "StockLogModel" "begin" "[I") (by decide +kernel)
  have fl33 := hts (.fieldLink RX3 33 "StockLogModel" "thrown" "I") (by decide +kernel)
  have fl41 := hts (.fieldLink RX3 41 "StockLogModel" "rows" "I") (by decide +kernel)
  have hD : va_D (mA [h, d1, s1, i1, b1, t1]) [(h, .inr (4, [.int (nI (32 * n)), .ref d1, .ref s1, .int bk2, .int up2, .ref i1, .ref b1, .int (nI R), .int (nI S), .int wr, .int th, .ref t1, .int (nI T)])), (d1, .inl (cI, 2048, .inl fD)), (s1, .inl (cI, 2048, .inl fS)), (i1, .inl (cI, 2080, .inl fI)), (b1, .inl (cI, 240, .inl fB)), (t1, .inl (cI, 20, .inl fT))] := k_Dw hD0 rfl
  have hS : va_S (mA [h, d1, s1, i1, b1, t1]) s.heap s.heap [] := va_S.rf
  have hl := lv_entry ([.ref h, .int kind, .int from_, .int to_]) (n := 7) (Nat.le_of_ble_eq_true rfl)
  rw [lg_entry_eq]
  generalize (lg_sl ([.ref h, .int kind, .int from_, .int to_]) ++ List.replicate (7 - (lg_sl ([.ref h, .int kind, .int from_, .int to_])).length) Slot.unset).toArray = ls at hl ⊢
  have hl : lv_has ls 7 [(0, .ref h), (1, .int kind), (2, .int from_), (3, .int to_)] := hl
  refine lv_aload_n hx hb dX3_total_0 rfl (lv_at hl 0 rfl) ?_
  refine lv_iload_n hx hb dX3_total_1 rfl (lv_at hl 1 rfl) ?_
  refine lv_iconst (v := 1) hx hb dX3_total_2 (by decide) ?_
  refine lv_iconst (v := 5) hx hb dX3_total_3 (by decide) ?_
  refine k_afP (va_runS (rest := [.ref h]) ⟨hx, hb, hml, hown, hts⟩ (m_X3_within l dC dI cI cJ kind 1 5 ) (cwS 3 hts gX3_total_X3_within rfl rfl rfl hds_X3_within ⟨Nat.le_of_ble_eq_true rfl, Nat.le_of_ble_eq_true rfl⟩) (k_preSP hK hP [] rfl) rfl rfl hl.1 rfl (lv_room (Nat.le_of_ble_eq_true rfl)) dX3_total_4 ⟨Nat.le_of_ble_eq_true rfl, Nat.le_of_ble_eq_true rfl⟩) ?_
  refine lv_if_eq (tgt := 14) hx hb dX3_total_7 (by decide) (fun c1 => ?_) (fun c1 => ?_)
  · refine lv_iconst (v := 1) hx hb dX3_total_14 (by decide) ?_
    refine k_putf (ws' := [(h, .inr (4, [.int (nI (32 * n)), .ref d1, .ref s1, .int bk2, .int up2, .ref i1, .ref b1, .int (nI R), .int (nI S), .int wr, .int 1, .ref t1, .int (nI T)])), (d1, .inl (cI, 2048, .inl fD)), (s1, .inl (cI, 2048, .inl fS)), (i1, .inl (cI, 2080, .inl fI)), (b1, .inl (cI, 240, .inl fB)), (t1, .inl (cI, 20, .inl fT))]) (ci := 4) (T := TX3) (N := 13) (C := RX3) (ty := .int) hx hb hts inX3 tyX3 tyX3_ok nmX3 hown hK hP hD hS 0 rfl rfl 10 (by decide) fl33 rfl rfl rfl rfl rfl (Nat.le_of_ble_eq_true rfl) dX3_total_15 rfl (fun H locs hP hD hS => ?_)
    refine lv_aload_n hx hb dX3_total_18 rfl (lv_at hl 0 rfl) ?_
    refine k_get (ci := 4) (T := TX3) (N := 13) (C := RX3) hx hb hts inX3 hown hK hP 0 rfl rfl 10 (by decide) fl33 rfl rfl dX3_total_19 ?_
    refine lv_if_eq (tgt := 27) hx hb dX3_total_22 (by decide) (fun c2 => ?_) (fun c2 => ?_)
    · exact absurd c2 (by decide)
    · refine lv_iconst (v := 0) hx hb dX3_total_25 (by decide) ?_
      exact k_iretW hx hb hr hlocks hP hS (by have hth : thTotal kind = 1 := (by simp only [thTotal, if_pos c1]); (simp only [hth, il1, if_false]) <;> rfl) (by have hth : thTotal kind = 1 := (by simp only [thTotal, if_pos c1]); (simp only [hth, il1, if_false]) <;> rfl) dX3_total_26
  · refine lv_iconst (v := 0) hx hb dX3_total_10 (by decide) ?_
    refine lv_goto (tgt := 15) hx hb dX3_total_11 (by decide) ?_
    refine k_putf (ws' := [(h, .inr (4, [.int (nI (32 * n)), .ref d1, .ref s1, .int bk2, .int up2, .ref i1, .ref b1, .int (nI R), .int (nI S), .int wr, .int 0, .ref t1, .int (nI T)])), (d1, .inl (cI, 2048, .inl fD)), (s1, .inl (cI, 2048, .inl fS)), (i1, .inl (cI, 2080, .inl fI)), (b1, .inl (cI, 240, .inl fB)), (t1, .inl (cI, 20, .inl fT))]) (ci := 4) (T := TX3) (N := 13) (C := RX3) (ty := .int) hx hb hts inX3 tyX3 tyX3_ok nmX3 hown hK hP hD hS 0 rfl rfl 10 (by decide) fl33 rfl rfl rfl rfl rfl (Nat.le_of_ble_eq_true rfl) dX3_total_15 rfl (fun H locs hP hD hS => ?_)
    refine lv_aload_n hx hb dX3_total_18 rfl (lv_at hl 0 rfl) ?_
    refine k_get (ci := 4) (T := TX3) (N := 13) (C := RX3) hx hb hts inX3 hown hK hP 0 rfl rfl 10 (by decide) fl33 rfl rfl dX3_total_19 ?_
    refine lv_if_eq (tgt := 27) hx hb dX3_total_22 (by decide) (fun c3 => ?_) (fun c3 => ?_)
    · refine lv_iconst (v := 0) hx hb dX3_total_27 (by decide) ?_
      refine lv_istore (lv' := [(4, .int 0), (0, .ref h), (1, .int kind), (2, .int from_), (3, .int to_)]) hx hb dX3_total_28 hl (by decide) rfl (fun ls hl => ?_)
      refine lv_iconst (v := 0) hx hb dX3_total_30 (by decide) ?_
      refine lv_istore (lv' := [(5, .int 0), (4, .int 0), (0, .ref h), (1, .int kind), (2, .int from_), (3, .int to_)]) hx hb dX3_total_31 hl (by decide) rfl (fun ls hl => ?_)
      have loop33 : ∀ (n9 : Nat) (k : Nat) (z : Int32) (H : Heap) (locs : List Loc) (ls : Array Slot), (z = toN fI Bg ln kind from_ to_ k) → (k ≤ R) → R - k < n9 → va_P (dC, dI) vwCl [(h, .inr (4, [.int (nI (32 * n)), .ref d1, .ref s1, .int bk2, .int up2, .ref i1, .ref b1, .int (nI R), .int (nI S), .int wr, .int 0, .ref t1, .int (nI T)])), (d1, .inl (cI, 2048, .inl fD)), (s1, .inl (cI, 2048, .inl fS)), (i1, .inl (cI, 2080, .inl fI)), (b1, .inl (cI, 240, .inl fB)), (t1, .inl (cI, 20, .inl fT))] H → va_D (mA [h, d1, s1, i1, b1, t1]) [(h, .inr (4, [.int (nI (32 * n)), .ref d1, .ref s1, .int bk2, .int up2, .ref i1, .ref b1, .int (nI R), .int (nI S), .int wr, .int 0, .ref t1, .int (nI T)])), (d1, .inl (cI, 2048, .inl fD)), (s1, .inl (cI, 2048, .inl fS)), (i1, .inl (cI, 2080, .inl fI)), (b1, .inl (cI, 240, .inl fB)), (t1, .inl (cI, 20, .inl fT))] → va_S (mA [h, d1, s1, i1, b1, t1]) s.heap H locs → lv_has ls 7 [(5, .int (nI k)), (4, .int z), (0, .ref h), (1, .int kind), (2, .int from_), (3, .int to_)] → W p l e (headSpec wsX3_total ({ frames := 1, cells := 0, slots := 0, locals := 22 })).room s m ([.ref h, .int kind, .int from_, .int to_] : List Value).toArray below meth c H locs 0 0 (MQ below (mQ dC dI [(h, .inr (4, [.int (nI (32 * n)), .ref d1, .ref s1, .int bk2, .int up2, .ref i1, .ref b1, .int (nI R), .int (nI S), .int wr, .int (thTotal kind), .ref t1, .int (nI T)])), (d1, .inl (cI, 2048, .inl fD)), (s1, .inl (cI, 2048, .inl fS)), (i1, .inl (cI, 2080, .inl fI)), (b1, .inl (cI, 240, .inl fB)), (t1, .inl (cI, 20, .inl fT))] [h, d1, s1, i1, b1, t1] (some (.int (if thTotal kind = 0 then toN fI Bg ln kind from_ to_ R else 0)))) ([.ref h, .int kind, .int from_, .int to_] : List Value).toArray s 0 0 (mA [h, d1, s1, i1, b1, t1])) (F0 m 33 ls []) := by
        intro n9
        induction n9 with
        | zero => intro k z H locs ls hz hk2 hm; exact absurd hm (Nat.not_lt_zero _)
        | succ n9 ih =>
          intro k z H locs ls hz hk2 hm hP hD hS hl
          refine lv_iload hx hb dX3_total_33 (lv_at hl 0 rfl) ?_
          refine lv_aload_n hx hb dX3_total_35 rfl (lv_at hl 2 rfl) ?_
          refine k_get (ci := 4) (T := TX3) (N := 13) (C := RX3) hx hb hts inX3 hown hK hP 0 rfl rfl 7 (by decide) fl41 rfl rfl dX3_total_36 ?_
          refine lv_icmp_ge (tgt := 112) hx hb dX3_total_39 (by decide) (fun c4 => ?_) (fun c4 => ?_)
          · have nc4 : R ≤ k := (nI_leI (a := R) (b := k) (by omega) (by omega)).mp c4
            refine lv_iload hx hb dX3_total_112 (lv_at hl 1 rfl) ?_
            exact k_iretW hx hb hr hlocks hP hS (by have hth : thTotal kind = 0 := (by simp only [thTotal, if_neg c1]); (simp only [hth, il0, if_true]) <;> (rw [hz, show k = R by omega])) (by have hth : thTotal kind = 0 := (by simp only [thTotal, if_neg c1]); (simp only [hth]) <;> rfl) dX3_total_114
          · have nc4 : ¬ R ≤ k := fun h9 => c4 ((nI_leI (a := R) (b := k) (by omega) (by omega)).mpr h9)
            refine lv_aload_n hx hb dX3_total_42 rfl (lv_at hl 2 rfl) ?_
            refine lv_iload hx hb dX3_total_43 (lv_at hl 0 rfl) ?_
            refine k_afP (va_runV (rest := []) ⟨hx, hb, hml, hown, hts⟩ (m_X3_kindOf l dC dI cI cJ h d1 s1 i1 b1 t1 fD fS fI fB fT n R S T bk2 up2 wr 0 k (Bg k) (by omega) (hB k (by omega)).1 (by have := (hB k (by omega)).2; omega)) (cwV 1 hts gX3_total_X3_kindOf rfl rfl rfl hdv_X3_kindOf ⟨Nat.le_of_ble_eq_true rfl, Nat.le_of_ble_eq_true rfl⟩) (k_preVP hK hP [0, 1, 2, 3, 4, 5] rfl 0 rfl rfl) rfl rfl hl.1 rfl (lv_room (Nat.le_of_ble_eq_true rfl)) dX3_total_45 ⟨Nat.le_of_ble_eq_true rfl, Nat.le_of_ble_eq_true rfl⟩) ?_
            refine lv_iload_n hx hb dX3_total_48 rfl (lv_at hl 3 rfl) ?_
            refine lv_icmp_ne (tgt := 106) hx hb dX3_total_49 (by decide) (fun c5 => ?_) (fun c5 => ?_)
            · refine lv_iinc (v := nI (k + 1)) (lv' := [(5, .int (nI (k + 1))), (4, .int z), (0, .ref h), (1, .int kind), (2, .int from_), (3, .int to_)]) hx hb dX3_total_106 hl (k := 0) rfl (nI_1 k) (by decide) rfl (fun ls hl => ?_)
              refine lv_goto (tgt := 33) hx hb dX3_total_109 (by decide) ?_
              exact ih (k + 1) z _ _ ls (by simp only [toN, if_neg c5]; exact hz) (by omega) (by omega) hP hD hS (lv_sub hl [0, 1, 2, 3, 4, 5] rfl)
            · refine lv_iload hx hb dX3_total_52 (lv_at hl 0 rfl) ?_
              refine lv_iconst (v := 1) hx hb dX3_total_54 (by decide) ?_
              refine lv_iadd hx hb dX3_total_55 ?_
              refine k_nrm (y := nI (k + 1)) (nI_add k 1) ?_
              refine lv_iload_n hx hb dX3_total_56 rfl (lv_at hl 4 rfl) ?_
              refine lv_iload_n hx hb dX3_total_57 rfl (lv_at hl 5 rfl) ?_
              refine k_afP (va_runS (rest := []) ⟨hx, hb, hml, hown, hts⟩ (m_X3_within l dC dI cI cJ (nI (k + 1)) from_ to_ ) (cwS 3 hts gX3_total_X3_within rfl rfl rfl hds_X3_within ⟨Nat.le_of_ble_eq_true rfl, Nat.le_of_ble_eq_true rfl⟩) (k_preSP hK hP [] rfl) rfl rfl hl.1 rfl (lv_room (Nat.le_of_ble_eq_true rfl)) dX3_total_58 ⟨Nat.le_of_ble_eq_true rfl, Nat.le_of_ble_eq_true rfl⟩) ?_
              refine lv_if_eq (tgt := 106) hx hb dX3_total_61 (by decide) (fun c6 => ?_) (fun c6 => ?_)
              · refine lv_iinc (v := nI (k + 1)) (lv' := [(5, .int (nI (k + 1))), (4, .int z), (0, .ref h), (1, .int kind), (2, .int from_), (3, .int to_)]) hx hb dX3_total_106 hl (k := 0) rfl (nI_1 k) (by decide) rfl (fun ls hl => ?_)
                refine lv_goto (tgt := 33) hx hb dX3_total_109 (by decide) ?_
                exact ih (k + 1) z _ _ ls (by simp only [toN, if_pos c5, if_pos c6]; exact hz) (by omega) (by omega) hP hD hS (lv_sub hl [0, 1, 2, 3, 4, 5] rfl)
              · refine lv_iconst (v := 0) hx hb dX3_total_64 (by decide) ?_
                refine lv_istore (lv' := [(6, .int 0), (5, .int (nI k)), (4, .int z), (0, .ref h), (1, .int kind), (2, .int from_), (3, .int to_)]) hx hb dX3_total_65 hl (by decide) rfl (fun ls hl => ?_)
                have loop67 : ∀ (n9 : Nat) (j : Nat) (y : Int32) (H : Heap) (locs : List Loc) (ls : Array Slot), (y = bsN fI (Bg k + 5) z j) → (j ≤ ln k) → ln k - j < n9 → va_P (dC, dI) vwCl [(h, .inr (4, [.int (nI (32 * n)), .ref d1, .ref s1, .int bk2, .int up2, .ref i1, .ref b1, .int (nI R), .int (nI S), .int wr, .int 0, .ref t1, .int (nI T)])), (d1, .inl (cI, 2048, .inl fD)), (s1, .inl (cI, 2048, .inl fS)), (i1, .inl (cI, 2080, .inl fI)), (b1, .inl (cI, 240, .inl fB)), (t1, .inl (cI, 20, .inl fT))] H → va_D (mA [h, d1, s1, i1, b1, t1]) [(h, .inr (4, [.int (nI (32 * n)), .ref d1, .ref s1, .int bk2, .int up2, .ref i1, .ref b1, .int (nI R), .int (nI S), .int wr, .int 0, .ref t1, .int (nI T)])), (d1, .inl (cI, 2048, .inl fD)), (s1, .inl (cI, 2048, .inl fS)), (i1, .inl (cI, 2080, .inl fI)), (b1, .inl (cI, 240, .inl fB)), (t1, .inl (cI, 20, .inl fT))] → va_S (mA [h, d1, s1, i1, b1, t1]) s.heap H locs → lv_has ls 7 [(6, .int (nI j)), (4, .int y), (5, .int (nI k)), (0, .ref h), (1, .int kind), (2, .int from_), (3, .int to_)] → W p l e (headSpec wsX3_total ({ frames := 1, cells := 0, slots := 0, locals := 22 })).room s m ([.ref h, .int kind, .int from_, .int to_] : List Value).toArray below meth c H locs 0 0 (MQ below (mQ dC dI [(h, .inr (4, [.int (nI (32 * n)), .ref d1, .ref s1, .int bk2, .int up2, .ref i1, .ref b1, .int (nI R), .int (nI S), .int wr, .int (thTotal kind), .ref t1, .int (nI T)])), (d1, .inl (cI, 2048, .inl fD)), (s1, .inl (cI, 2048, .inl fS)), (i1, .inl (cI, 2080, .inl fI)), (b1, .inl (cI, 240, .inl fB)), (t1, .inl (cI, 20, .inl fT))] [h, d1, s1, i1, b1, t1] (some (.int (if thTotal kind = 0 then toN fI Bg ln kind from_ to_ R else 0)))) ([.ref h, .int kind, .int from_, .int to_] : List Value).toArray s 0 0 (mA [h, d1, s1, i1, b1, t1])) (F0 m 67 ls []) := by
                  intro n9
                  induction n9 with
                  | zero => intro j y H locs ls hy hj hm; exact absurd hm (Nat.not_lt_zero _)
                  | succ n9 ih67 =>
                    intro j y H locs ls hy hj hm67 hP hD hS hl
                    have hl20 := (hln k (by omega)).2
                    refine lv_iload hx hb dX3_total_67 (lv_at hl 0 rfl) ?_
                    refine lv_aload_n hx hb dX3_total_69 rfl (lv_at hl 3 rfl) ?_
                    refine lv_iload hx hb dX3_total_70 (lv_at hl 2 rfl) ?_
                    refine k_afP (va_runV (rest := [.int (nI j)]) ⟨hx, hb, hml, hown, hts⟩ (m_X3_longOf l dC dI cI cJ h d1 s1 i1 b1 t1 fD fS fI fB fT n R S T bk2 up2 wr 0 k (Bg k) (ln k) (by omega) (hB k (by omega)).1 (by have := (hB k (by omega)).2; omega) (hln k (by omega)).1) (cwV 1 hts gX3_total_X3_longOf rfl rfl rfl hdv_X3_longOf ⟨Nat.le_of_ble_eq_true rfl, Nat.le_of_ble_eq_true rfl⟩) (k_preVP hK hP [0, 1, 2, 3, 4, 5] rfl 0 rfl rfl) rfl rfl hl.1 rfl (lv_room (Nat.le_of_ble_eq_true rfl)) dX3_total_72 ⟨Nat.le_of_ble_eq_true rfl, Nat.le_of_ble_eq_true rfl⟩) ?_
                    refine lv_icmp_ge (tgt := 106) hx hb dX3_total_75 (by decide) (fun c7 => ?_) (fun c7 => ?_)
                    · have nc7 : (ln k) ≤ j := (nI_leI (a := (ln k)) (b := j) (by omega) (by omega)).mp c7
                      refine lv_iinc (v := nI (k + 1)) (lv' := [(5, .int (nI (k + 1))), (6, .int (nI j)), (4, .int y), (0, .ref h), (1, .int kind), (2, .int from_), (3, .int to_)]) hx hb dX3_total_106 hl (k := 2) rfl (nI_1 k) (by decide) rfl (fun ls hl => ?_)
                      refine lv_goto (tgt := 33) hx hb dX3_total_109 (by decide) ?_
                      exact ih (k + 1) y _ _ ls (by simp only [toN, if_pos c5, if_neg c6]; rw [← hz, hy, show j = ln k by omega]) (by omega) (by omega) hP hD hS (lv_sub hl [0, 2, 3, 4, 5, 6] rfl)
                    · have nc7 : ¬ (ln k) ≤ j := fun h9 => c7 ((nI_leI (a := (ln k)) (b := j) (by omega) (by omega)).mpr h9)
                      refine lv_iload hx hb dX3_total_78 (lv_at hl 1 rfl) ?_
                      refine lv_aload_n hx hb dX3_total_80 rfl (lv_at hl 3 rfl) ?_
                      refine k_get (ci := 4) (T := TX3) (N := 13) (C := RX3) hx hb hts inX3 hown hK hP 0 rfl rfl 5 (by decide) fl20 rfl rfl dX3_total_81 ?_
                      refine lv_aload_n hx hb dX3_total_84 rfl (lv_at hl 3 rfl) ?_
                      refine k_get (ci := 4) (T := TX3) (N := 13) (C := RX3) hx hb hts inX3 hown hK hP 0 rfl rfl 6 (by decide) fl23 rfl rfl dX3_total_85 ?_
                      refine lv_iload hx hb dX3_total_88 (lv_at hl 2 rfl) ?_
                      refine k_ialdn (i := k) hx hb hK hP 4 rfl (by omega) (by decide) dX3_total_90 ?_
                      refine k_nrm (y := nI (Bg k)) (hB k (by omega)).1 ?_
                      have hb30 := (hB k (by omega)).2
                      have hl20 := (hln k (by omega)).2
                      refine lv_iconst (v := 5) hx hb dX3_total_91 (by decide) ?_
                      refine lv_iadd hx hb dX3_total_92 ?_
                      refine k_nrm (y := nI ((Bg k) + 5)) (nI_add (Bg k) 5) ?_
                      refine lv_iload hx hb dX3_total_93 (lv_at hl 0 rfl) ?_
                      refine lv_iadd hx hb dX3_total_95 ?_
                      refine k_nrm (y := nI (((Bg k) + 5) + j)) (nI_add ((Bg k) + 5) j) ?_
                      refine k_ialdn (i := ((Bg k) + 5) + j) hx hb hK hP 3 rfl (by omega) (by decide) dX3_total_96 ?_
                      refine lv_iadd hx hb dX3_total_97 ?_
                      refine lv_istore (lv' := [(4, .int (y + (fI (((Bg k) + 5) + j)))), (6, .int (nI j)), (5, .int (nI k)), (0, .ref h), (1, .int kind), (2, .int from_), (3, .int to_)]) hx hb dX3_total_98 hl (by decide) rfl (fun ls hl => ?_)
                      refine lv_iinc (v := nI (j + 1)) (lv' := [(6, .int (nI (j + 1))), (4, .int (y + (fI (((Bg k) + 5) + j)))), (5, .int (nI k)), (0, .ref h), (1, .int kind), (2, .int from_), (3, .int to_)]) hx hb dX3_total_100 hl (k := 1) rfl (nI_1 j) (by decide) rfl (fun ls hl => ?_)
                      refine lv_goto (tgt := 67) hx hb dX3_total_103 (by decide) ?_
                      exact ih67 (j + 1) (y + (fI (((Bg k) + 5) + j))) _ _ ls (by rw [bsN, ← hy]) (by omega) (by omega) hP hD hS (lv_sub hl [0, 1, 2, 3, 4, 5, 6] rfl)
                exact loop67 _ 0 z _ _ ls rfl (Nat.zero_le _) (Nat.lt_succ_self _) hP hD hS (lv_sub hl [0, 2, 1, 3, 4, 5, 6] rfl)
      exact loop33 _ 0 0 _ _ ls rfl (Nat.zero_le _) (Nat.lt_succ_self _) hP hD hS (lv_sub hl [0, 1, 2, 3, 4, 5] rfl)
    · exact absurd c3 (by decide)
set_option maxHeartbeats 4000000 in
set_option maxRecDepth 100000 in
theorem m_X3_count (l : Launch) (dC : Nat → ClassId) (dI : Nat → Nat → Nat) (cI cJ : ClassId) (h : Nat) (d1 : Nat) (s1 : Nat) (i1 : Nat) (b1 : Nat) (t1 : Nat) (fD : Nat → Int32) (fS : Nat → Int32) (fI : Nat → Int32) (fB : Nat → Int32) (fT : Nat → Int32) (n : Nat) (R : Nat) (S : Nat) (T : Nat) (bk2 : Int32) (up2 : Int32) (wr : Int32) (th : Int32) (bR : Nat) (bS : Nat) (Bg : Nat → Nat) (what : Int32) (hn : n ≤ 64) (hR9 : R ≤ 227) (hS9 : S ≤ R) (hbg : fB R = nI bR) (hbs : fB S = nI bS) (hbR : bR ≤ 32 * n) (hbS : bS ≤ bR) (hB : ∀ j, j < R → fB j = nI (Bg j) ∧ Bg j + 4 < 2080) : cW l yX3_count wsX3_count ({ frames := 2, cells := 0, slots := 0, locals := 45 }) dC dI cI cJ [(h, .inr (4, [.int (nI (32 * n)), .ref d1, .ref s1, .int bk2, .int up2, .ref i1, .ref b1, .int (nI R), .int (nI S), .int wr, .int th, .ref t1, .int (nI T)])), (d1, .inl (cI, 2048, .inl fD)), (s1, .inl (cI, 2048, .inl fS)), (i1, .inl (cI, 2080, .inl fI)), (b1, .inl (cI, 240, .inl fB)), (t1, .inl (cI, 20, .inl fT))] [(h, .inr (4, [.int (nI (32 * n)), .ref d1, .ref s1, .int bk2, .int up2, .ref i1, .ref b1, .int (nI R), .int (nI S), .int wr, .int 0, .ref t1, .int (nI T)])), (d1, .inl (cI, 2048, .inl fD)), (s1, .inl (cI, 2048, .inl fS)), (i1, .inl (cI, 2080, .inl fI)), (b1, .inl (cI, 240, .inl fB)), (t1, .inl (cI, 20, .inl fT))] [h, d1, s1, i1, b1, t1] [.ref h, .int what] (some (.int (ctN fI Bg n R S T bR bS up2 what))) := by
  refine Met.ofW (cc := cX3_count) (maxL := 2) (ret := (some .int)) (by decide) rfl ?_
  intro p e s m args below meth c s₁ B hml hv
  obtain ⟨rfl, hP, hK, hD0⟩ := hv
  have hx := B.exec
  have hb := B.bytes
  have hr := B.returns
  have hts := atoms_spec (ws := wsX3_count) B.pre
  have hown : s.vm.findClass RX3 = some m.cls := findClass_of_methodNamed B.named
  have hlocks := B.notSynchronized
  have inX3 : ∀ w ∈ wsX30, w ∈ wsX3_count := fun w h => (List.mem_cons_of_mem _ (List.mem_append_right _ h))
  have fl16 := hts (.fieldLink RX3 16 "StockLogModel" "up" "Z") (by decide +kernel)
  have fl23 := hts (.fieldLink RX3 23 "StockLogModel" "begin" "[I") (by decide +kernel)
  have fl29 := hts (.fieldLink RX3 29 "StockLogModel" "size" "I") (by decide +kernel)
  have fl33 := hts (.fieldLink RX3 33 "StockLogModel" "thrown" "I") (by decide +kernel)
  have fl41 := hts (.fieldLink RX3 41 "StockLogModel" "rows" "I") (by decide +kernel)
  have fl52 := hts (.fieldLink RX3 52 "StockLogModel" "toldMany" "I") (by decide +kernel)
  have fl70 := hts (.fieldLink RX3 70 "StockLogModel" "synced" "I") (by decide +kernel)
  have hD : va_D (mA [h, d1, s1, i1, b1, t1]) [(h, .inr (4, [.int (nI (32 * n)), .ref d1, .ref s1, .int bk2, .int up2, .ref i1, .ref b1, .int (nI R), .int (nI S), .int wr, .int th, .ref t1, .int (nI T)])), (d1, .inl (cI, 2048, .inl fD)), (s1, .inl (cI, 2048, .inl fS)), (i1, .inl (cI, 2080, .inl fI)), (b1, .inl (cI, 240, .inl fB)), (t1, .inl (cI, 20, .inl fT))] := k_Dw hD0 rfl
  have hS : va_S (mA [h, d1, s1, i1, b1, t1]) s.heap s.heap [] := va_S.rf
  have hl := lv_entry ([.ref h, .int what]) (n := 2) (Nat.le_of_ble_eq_true rfl)
  rw [lg_entry_eq]
  generalize (lg_sl ([.ref h, .int what]) ++ List.replicate (2 - (lg_sl ([.ref h, .int what])).length) Slot.unset).toArray = ls at hl ⊢
  have hl : lv_has ls 2 [(0, .ref h), (1, .int what)] := hl
  refine lv_aload_n hx hb dX3_count_0 rfl (lv_at hl 0 rfl) ?_
  refine lv_iconst (v := 0) hx hb dX3_count_1 (by decide) ?_
  refine k_putf (ws' := [(h, .inr (4, [.int (nI (32 * n)), .ref d1, .ref s1, .int bk2, .int up2, .ref i1, .ref b1, .int (nI R), .int (nI S), .int wr, .int 0, .ref t1, .int (nI T)])), (d1, .inl (cI, 2048, .inl fD)), (s1, .inl (cI, 2048, .inl fS)), (i1, .inl (cI, 2080, .inl fI)), (b1, .inl (cI, 240, .inl fB)), (t1, .inl (cI, 20, .inl fT))]) (ci := 4) (T := TX3) (N := 13) (C := RX3) (ty := .int) hx hb hts inX3 tyX3 tyX3_ok nmX3 hown hK hP hD hS 0 rfl rfl 10 (by decide) fl33 rfl rfl rfl rfl rfl (Nat.le_of_ble_eq_true rfl) dX3_count_2 rfl (fun H locs hP hD hS => ?_)
  refine lv_iload_n hx hb dX3_count_5 rfl (lv_at hl 1 rfl) ?_
  by_cases c1 : what = 0
  · refine lv_tableIn (off := 46) (tgt := 52) hx hb dX3_count_6 (by rw [c1]; decide) (by rw [c1]; decide) (by rw [c1]; rfl) (by decide) ?_
    refine lv_aload_n hx hb dX3_count_52 rfl (lv_at hl 0 rfl) ?_
    refine k_get (ci := 4) (T := TX3) (N := 13) (C := RX3) hx hb hts inX3 hown hK hP 0 rfl rfl 0 (by decide) fl29 rfl rfl dX3_count_53 ?_
    refine lv_bipush (v := 32) hx hb dX3_count_56 (by decide) ?_
    refine lv_idiv hx hb dX3_count_58 (by decide) ?_
    refine k_nrm (y := nI ((32 * n) / 32)) (pk_div (a := 32 * n) (d := 32) (by omega) (by decide) (by decide)) ?_
    exact k_iretW hx hb hr hlocks hP hS (by simp only [ctN, if_pos c1]) rfl dX3_count_59
  by_cases c2 : what = 1
  · refine lv_tableIn (off := 54) (tgt := 60) hx hb dX3_count_6 (by rw [c2]; decide) (by rw [c2]; decide) (by rw [c2]; rfl) (by decide) ?_
    refine lv_aload_n hx hb dX3_count_60 rfl (lv_at hl 0 rfl) ?_
    refine k_get (ci := 4) (T := TX3) (N := 13) (C := RX3) hx hb hts inX3 hown hK hP 0 rfl rfl 7 (by decide) fl41 rfl rfl dX3_count_61 ?_
    exact k_iretW hx hb hr hlocks hP hS (by simp only [ctN, if_neg c1, if_pos c2]) rfl dX3_count_64
  by_cases c3 : what = 2
  · refine lv_tableIn (off := 59) (tgt := 65) hx hb dX3_count_6 (by rw [c3]; decide) (by rw [c3]; decide) (by rw [c3]; rfl) (by decide) ?_
    refine lv_aload_n hx hb dX3_count_65 rfl (lv_at hl 0 rfl) ?_
    refine k_get (ci := 4) (T := TX3) (N := 13) (C := RX3) hx hb hts inX3 hown hK hP 0 rfl rfl 8 (by decide) fl70 rfl rfl dX3_count_66 ?_
    exact k_iretW hx hb hr hlocks hP hS (by simp only [ctN, if_neg c1, if_neg c2, if_pos c3]) rfl dX3_count_69
  by_cases c4 : what = 3
  · refine lv_tableIn (off := 64) (tgt := 70) hx hb dX3_count_6 (by rw [c4]; decide) (by rw [c4]; decide) (by rw [c4]; rfl) (by decide) ?_
    refine lv_aload_n hx hb dX3_count_70 rfl (lv_at hl 0 rfl) ?_
    refine k_afP (va_runV (rest := []) ⟨hx, hb, hml, hown, hts⟩ (m_X3_inMemory l dC dI cI cJ h d1 s1 i1 b1 t1 fD fS fI fB fT n R S T bk2 up2 wr 0 bR bS (by omega) (by omega) hbg hbs (by omega) (by omega)) (cwV 0 hts gX3_count_X3_inMemory rfl rfl rfl hdv_X3_inMemory ⟨Nat.le_of_ble_eq_true rfl, Nat.le_of_ble_eq_true rfl⟩) (k_preVP hK hP [0, 1, 2, 3, 4, 5] rfl 0 rfl rfl) rfl rfl hl.1 rfl (lv_room (Nat.le_of_ble_eq_true rfl)) dX3_count_71 ⟨Nat.le_of_ble_eq_true rfl, Nat.le_of_ble_eq_true rfl⟩) ?_
    exact k_iretW hx hb hr hlocks hP hS (by simp only [ctN, if_neg c1, if_neg c2, if_neg c3, if_pos c4]) rfl dX3_count_74
  by_cases c5 : what = 4
  · refine lv_tableIn (off := 69) (tgt := 75) hx hb dX3_count_6 (by rw [c5]; decide) (by rw [c5]; decide) (by rw [c5]; rfl) (by decide) ?_
    refine lv_aload_n hx hb dX3_count_75 rfl (lv_at hl 0 rfl) ?_
    refine k_get (ci := 4) (T := TX3) (N := 13) (C := RX3) hx hb hts inX3 hown hK hP 0 rfl rfl 12 (by decide) fl52 rfl rfl dX3_count_76 ?_
    exact k_iretW hx hb hr hlocks hP hS (by simp only [ctN, if_neg c1, if_neg c2, if_neg c3, if_neg c4, if_pos c5]) rfl dX3_count_79
  by_cases c6 : what = 5
  · refine lv_tableIn (off := 74) (tgt := 80) hx hb dX3_count_6 (by rw [c6]; decide) (by rw [c6]; decide) (by rw [c6]; rfl) (by decide) ?_
    refine lv_aload_n hx hb dX3_count_80 rfl (lv_at hl 0 rfl) ?_
    refine k_get (ci := 4) (T := TX3) (N := 13) (C := RX3) hx hb hts inX3 hown hK hP 0 rfl rfl 4 (by decide) fl16 rfl rfl dX3_count_81 ?_
    refine lv_if_eq (tgt := 91) hx hb dX3_count_84 (by decide) (fun c7 => ?_) (fun c7 => ?_)
    · refine lv_iconst (v := 0) hx hb dX3_count_91 (by decide) ?_
      exact k_iretW hx hb hr hlocks hP hS (by simp only [ctN, if_neg c1, if_neg c2, if_neg c3, if_neg c4, if_neg c5, if_pos c6, if_pos c7]) rfl dX3_count_92
    · refine lv_iconst (v := 1) hx hb dX3_count_87 (by decide) ?_
      refine lv_goto (tgt := 92) hx hb dX3_count_88 (by decide) ?_
      exact k_iretW hx hb hr hlocks hP hS (by simp only [ctN, if_neg c1, if_neg c2, if_neg c3, if_neg c4, if_neg c5, if_pos c6, if_neg c7]) rfl dX3_count_92
  by_cases c8 : what = 6
  · refine lv_tableIn (off := 87) (tgt := 93) hx hb dX3_count_6 (by rw [c8]; decide) (by rw [c8]; decide) (by rw [c8]; rfl) (by decide) ?_
    refine lv_aload_n hx hb dX3_count_93 rfl (lv_at hl 0 rfl) ?_
    refine k_get (ci := 4) (T := TX3) (N := 13) (C := RX3) hx hb hts inX3 hown hK hP 0 rfl rfl 6 (by decide) fl23 rfl rfl dX3_count_94 ?_
    refine lv_aload_n hx hb dX3_count_97 rfl (lv_at hl 0 rfl) ?_
    refine k_get (ci := 4) (T := TX3) (N := 13) (C := RX3) hx hb hts inX3 hown hK hP 0 rfl rfl 7 (by decide) fl41 rfl rfl dX3_count_98 ?_
    refine k_ialdn (i := R) hx hb hK hP 4 rfl (by omega) (by decide) dX3_count_101 ?_
    refine k_nrm (y := nI bR) hbg ?_
    exact k_iretW hx hb hr hlocks hP hS (by simp only [ctN, if_neg c1, if_neg c2, if_neg c3, if_neg c4, if_neg c5, if_neg c6, if_pos c8]) rfl dX3_count_102
  by_cases c9 : what = 7
  · refine lv_tableIn (off := 97) (tgt := 103) hx hb dX3_count_6 (by rw [c9]; decide) (by rw [c9]; decide) (by rw [c9]; rfl) (by decide) ?_
    refine lv_aload_n hx hb dX3_count_103 rfl (lv_at hl 0 rfl) ?_
    refine lv_iconst (v := 5) hx hb dX3_count_104 (by decide) ?_
    refine lv_aload_n hx hb dX3_count_105 rfl (lv_at hl 0 rfl) ?_
    refine k_get (ci := 4) (T := TX3) (N := 13) (C := RX3) hx hb hts inX3 hown hK hP 0 rfl rfl 7 (by decide) fl41 rfl rfl dX3_count_106 ?_
    refine k_afP (va_runV (rest := []) ⟨hx, hb, hml, hown, hts⟩ (m_X3_rowsOf l dC dI cI cJ h d1 s1 i1 b1 t1 fD fS fI fB fT n R S T bk2 up2 wr 0 Bg 5 R hB (by omega)) (cwV 2 hts gX3_count_X3_rowsOf rfl rfl rfl hdv_X3_rowsOf ⟨Nat.le_of_ble_eq_true rfl, Nat.le_of_ble_eq_true rfl⟩) (k_preVP hK hP [0, 1, 2, 3, 4, 5] rfl 0 rfl rfl) rfl rfl hl.1 rfl (lv_room (Nat.le_of_ble_eq_true rfl)) dX3_count_109 ⟨Nat.le_of_ble_eq_true rfl, Nat.le_of_ble_eq_true rfl⟩) ?_
    exact k_iretW hx hb hr hlocks hP hS (by simp only [ctN, if_neg c1, if_neg c2, if_neg c3, if_neg c4, if_neg c5, if_neg c6, if_neg c8, if_pos c9]) rfl dX3_count_112
  refine lv_tableOut (tgt := 113) hx hb dX3_count_6 (by have := lv_neT (k := 0) (a := 0) c1 rfl; have := lv_neT (k := 1) (a := 1) c2 rfl; have := lv_neT (k := 2) (a := 2) c3 rfl; have := lv_neT (k := 3) (a := 3) c4 rfl; have := lv_neT (k := 4) (a := 4) c5 rfl; have := lv_neT (k := 5) (a := 5) c6 rfl; have := lv_neT (k := 6) (a := 6) c8 rfl; have := lv_neT (k := 7) (a := 7) c9 rfl; omega) (by decide) ?_
  refine lv_iconst (v := (-1)) hx hb dX3_count_113 (by decide) ?_
  exact k_iretW hx hb hr hlocks hP hS (by simp only [ctN, if_neg c1, if_neg c2, if_neg c3, if_neg c4, if_neg c5, if_neg c6, if_neg c8, if_neg c9]) rfl dX3_count_114
