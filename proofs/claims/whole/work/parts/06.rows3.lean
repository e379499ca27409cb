set_option maxHeartbeats 4000000 in
set_option maxRecDepth 100000 in
theorem m_X1_judgeNext (l : Launch) (dC : Nat → ClassId) (dI : Nat → Nat → Nat) (cI cJ : ClassId) (r : Nat) (qi : Nat) (ai : Nat) (qs : Nat) (aS : Nat) (qk : Nat) (ak : Nat) (qt : Nat) (aT : Nat) (N : Nat) (K : Nat) (fi : Nat → Int32) (fs : Nat → Int32) (fk : Nat → Int32) (ft : Nat → Int32) (last : Int32) (used : Int32) (lod : Int32) (uod : Int32) (hb9 : Nat) (ab : Nat) (M : Nat) (g : Nat → Int32) (hN : N < 2 ^ 31) (hK9 : K < 2 ^ 31) (hM : M < 2 ^ 31) : cP l yX1_judgeNext wsX1_judgeNext ({ frames := 3, cells := 0, slots := 0, locals := 69 }) dC dI cI cJ [(r, .inr (2, [.ref qi, .ref qs, .ref qk, .ref qt, .int last, .int used, .int lod, .int uod])), (qi, .inr (1, [.ref ai])), (ai, .inl (cI, N, .inl fi)), (qs, .inr (1, [.ref aS])), (aS, .inl (cI, K, .inl fs)), (qk, .inr (1, [.ref ak])), (ak, .inl (cI, 6, .inl fk)), (qt, .inr (1, [.ref aT])), (aT, .inl (cI, 8, .inl ft)), (hb9, .inr (1, [.ref ab])), (ab, .inl (cI, M, .inl g))] [.ref r, .ref hb9] (rw_judge M g fk last used) := by
  refine Met.ofW (cc := cX1_judgeNext) (maxL := 3) (ret := (some .int)) (by decide) rfl ?_
  intro p e s m args below meth c s₁ B hml hv
  obtain ⟨rfl, hP, hK⟩ := hv
  have hx := B.exec
  have hb := B.bytes
  have hr := B.returns
  have hts := atoms_spec (ws := wsX1_judgeNext) B.pre
  have hown : s.vm.findClass RX1 = some m.cls := findClass_of_methodNamed B.named
  have hlocks := B.notSynchronized
  have inX1 : ∀ w ∈ wsX10, w ∈ wsX1_judgeNext := fun w h => (List.mem_cons_of_mem _ (List.mem_append_left _ (List.mem_append_right _ h)))
  have fl29 := hts (.fieldLink RX1 29 "StockLog$Rows" "last" "I") (by decide +kernel)
  have fl47 := hts (.fieldLink RX1 47 "StockLog$Rows" "used" "I") (by decide +kernel)
  have hl := lv_entry ([.ref r, .ref hb9]) (n := 3) (Nat.le_of_ble_eq_true rfl)
  rw [lg_entry_eq]
  generalize (lg_sl ([.ref r, .ref hb9]) ++ List.replicate (3 - (lg_sl ([.ref r, .ref hb9])).length) Slot.unset).toArray = ls at hl ⊢
  have hl : lv_has ls 3 [(0, .ref r), (1, .ref hb9)] := hl
  refine lv_aload_n hx hb dX1_judgeNext_0 rfl (lv_at hl 1 rfl) ?_
  refine lv_aload_n hx hb dX1_judgeNext_1 rfl (lv_at hl 0 rfl) ?_
  refine k_get (ci := 2) (T := TX1) (N := 8) (C := RX1) hx hb hts inX1 hown hK hP 0 rfl rfl 5 (by decide) fl47 rfl rfl dX1_judgeNext_2 ?_
  refine k_afP (va_runV (rest := []) ⟨hx, hb, hml, hown, hts⟩ (m_X0_isZeroFrom l dC dI cI cJ hb9 ab M g used (by first | assumption | decide)) (cwV 1 hts gX1_judgeNext_X0_isZeroFrom rfl rfl rfl hdv_X0_isZeroFrom ⟨Nat.le_of_ble_eq_true rfl, Nat.le_of_ble_eq_true rfl⟩) (k_preVP hK hP [9, 10] rfl 9 rfl rfl) rfl rfl hl.1 rfl (lv_room (Nat.le_of_ble_eq_true rfl)) dX1_judgeNext_5 ⟨Nat.le_of_ble_eq_true rfl, Nat.le_of_ble_eq_true rfl⟩) ?_
  refine lv_if_eq (tgt := 13) hx hb dX1_judgeNext_8 (by decide) (fun c1 => ?_) (fun c1 => ?_)
  · refine lv_aload_n hx hb dX1_judgeNext_13 rfl (lv_at hl 1 rfl) ?_
    refine lv_aload_n hx hb dX1_judgeNext_14 rfl (lv_at hl 0 rfl) ?_
    refine k_get (ci := 2) (T := TX1) (N := 8) (C := RX1) hx hb hts inX1 hown hK hP 0 rfl rfl 5 (by decide) fl47 rfl rfl dX1_judgeNext_15 ?_
    refine k_afP (va_runV (rest := []) ⟨hx, hb, hml, hown, hts⟩ (m_X0_at l dC dI cI cJ hb9 ab M g used (by first | assumption | decide)) (cwV 1 hts gX1_judgeNext_X0_at rfl rfl rfl hdv_X0_at ⟨Nat.le_of_ble_eq_true rfl, Nat.le_of_ble_eq_true rfl⟩) (k_preVP hK hP [9, 10] rfl 9 rfl rfl) rfl rfl hl.1 rfl (lv_room (Nat.le_of_ble_eq_true rfl)) dX1_judgeNext_18 ⟨Nat.le_of_ble_eq_true rfl, Nat.le_of_ble_eq_true rfl⟩) ?_
    refine lv_bipush (v := 90) hx hb dX1_judgeNext_21 (by decide) ?_
    refine lv_icmp_eq (tgt := 28) hx hb dX1_judgeNext_23 (by decide) (fun c2 => ?_) (fun c2 => ?_)
    · refine lv_aload_n hx hb dX1_judgeNext_28 rfl (lv_at hl 0 rfl) ?_
      refine k_get (ci := 2) (T := TX1) (N := 8) (C := RX1) hx hb hts inX1 hown hK hP 0 rfl rfl 5 (by decide) fl47 rfl rfl dX1_judgeNext_29 ?_
      refine lv_iconst (v := 4) hx hb dX1_judgeNext_32 (by decide) ?_
      refine lv_iadd hx hb dX1_judgeNext_33 ?_
      refine lv_aload_n hx hb dX1_judgeNext_34 rfl (lv_at hl 1 rfl) ?_
      refine k_afP (va_runV (rest := [.int (used + 4)]) ⟨hx, hb, hml, hown, hts⟩ (m_X0_length l dC dI cI cJ hb9 ab M g ) (cwV 0 hts gX1_judgeNext_X0_length rfl rfl rfl hdv_X0_length ⟨Nat.le_of_ble_eq_true rfl, Nat.le_of_ble_eq_true rfl⟩) (k_preVP hK hP [9, 10] rfl 9 rfl rfl) rfl rfl hl.1 rfl (lv_room (Nat.le_of_ble_eq_true rfl)) dX1_judgeNext_35 ⟨Nat.le_of_ble_eq_true rfl, Nat.le_of_ble_eq_true rfl⟩) ?_
      refine lv_icmp_lt (tgt := 43) hx hb dX1_judgeNext_38 (by decide) (fun c3 => ?_) (fun c3 => ?_)
      · refine lv_aload_n hx hb dX1_judgeNext_43 rfl (lv_at hl 1 rfl) ?_
        refine lv_aload_n hx hb dX1_judgeNext_44 rfl (lv_at hl 0 rfl) ?_
        refine k_get (ci := 2) (T := TX1) (N := 8) (C := RX1) hx hb hts inX1 hown hK hP 0 rfl rfl 5 (by decide) fl47 rfl rfl dX1_judgeNext_45 ?_
        refine lv_iconst (v := 1) hx hb dX1_judgeNext_48 (by decide) ?_
        refine lv_iadd hx hb dX1_judgeNext_49 ?_
        refine k_afP (va_runV (rest := []) ⟨hx, hb, hml, hown, hts⟩ (m_X0_at l dC dI cI cJ hb9 ab M g (used + 1) (by first | assumption | decide)) (cwV 1 hts gX1_judgeNext_X0_at rfl rfl rfl hdv_X0_at ⟨Nat.le_of_ble_eq_true rfl, Nat.le_of_ble_eq_true rfl⟩) (k_preVP hK hP [9, 10] rfl 9 rfl rfl) rfl rfl hl.1 rfl (lv_room (Nat.le_of_ble_eq_true rfl)) dX1_judgeNext_50 ⟨Nat.le_of_ble_eq_true rfl, Nat.le_of_ble_eq_true rfl⟩) ?_
        refine k_afP (va_runSN (host := "StockLog") (rest := []) ⟨hx, hb, hml, hown, hts⟩ (m_X2_isKind l dC dI cI cJ (ca_at M g (used + 1)) ) ⟨va_cnB 1 hts ggX1_judgeNext_X2_isKind rfl rfl rfl (hK.2.2 (RX1, 97, yX2_isKind, "StockLog") (by decide +kernel)) (hts (.initialized RX2) (by decide +kernel)) hdn_X2_isKind ⟨Nat.le_of_ble_eq_true rfl, Nat.le_of_ble_eq_true rfl⟩, hts (.static yX2_isKind) (by decide +kernel), trivial⟩ (k_preSP hK hP [] rfl) rfl rfl hl.1 rfl (lv_room (Nat.le_of_ble_eq_true rfl)) dX1_judgeNext_53 ⟨Nat.le_of_ble_eq_true rfl, Nat.le_of_ble_eq_true rfl⟩) ?_
        refine lv_if_ne (tgt := 61) hx hb dX1_judgeNext_56 (by decide) (fun c4 => ?_) (fun c4 => ?_)
        · refine lv_aload_n hx hb dX1_judgeNext_61 rfl (lv_at hl 1 rfl) ?_
          refine lv_aload_n hx hb dX1_judgeNext_62 rfl (lv_at hl 0 rfl) ?_
          refine k_get (ci := 2) (T := TX1) (N := 8) (C := RX1) hx hb hts inX1 hown hK hP 0 rfl rfl 5 (by decide) fl47 rfl rfl dX1_judgeNext_63 ?_
          refine lv_iconst (v := 2) hx hb dX1_judgeNext_66 (by decide) ?_
          refine lv_iadd hx hb dX1_judgeNext_67 ?_
          refine lv_iconst (v := 2) hx hb dX1_judgeNext_68 (by decide) ?_
          refine k_afP (va_runV (rest := []) ⟨hx, hb, hml, hown, hts⟩ (m_X0_numberAt l dC dI cI cJ hb9 ab M g (used + 2) 2 (by first | assumption | decide)) (cwV 2 hts gX1_judgeNext_X0_numberAt rfl rfl rfl hdv_X0_numberAt ⟨Nat.le_of_ble_eq_true rfl, Nat.le_of_ble_eq_true rfl⟩) (k_preVP hK hP [9, 10] rfl 9 rfl rfl) rfl rfl hl.1 rfl (lv_room (Nat.le_of_ble_eq_true rfl)) dX1_judgeNext_69 ⟨Nat.le_of_ble_eq_true rfl, Nat.le_of_ble_eq_true rfl⟩) ?_
          refine lv_aload_n hx hb dX1_judgeNext_72 rfl (lv_at hl 0 rfl) ?_
          refine k_get (ci := 2) (T := TX1) (N := 8) (C := RX1) hx hb hts inX1 hown hK hP 0 rfl rfl 4 (by decide) fl29 rfl rfl dX1_judgeNext_73 ?_
          refine lv_iconst (v := 1) hx hb dX1_judgeNext_76 (by decide) ?_
          refine lv_iadd hx hb dX1_judgeNext_77 ?_
          refine lv_icmp_eq (tgt := 83) hx hb dX1_judgeNext_78 (by decide) (fun c5 => ?_) (fun c5 => ?_)
          · refine lv_aload_n hx hb dX1_judgeNext_83 rfl (lv_at hl 1 rfl) ?_
            refine lv_aload_n hx hb dX1_judgeNext_84 rfl (lv_at hl 0 rfl) ?_
            refine k_get (ci := 2) (T := TX1) (N := 8) (C := RX1) hx hb hts inX1 hown hK hP 0 rfl rfl 5 (by decide) fl47 rfl rfl dX1_judgeNext_85 ?_
            refine lv_iconst (v := 4) hx hb dX1_judgeNext_88 (by decide) ?_
            refine lv_iadd hx hb dX1_judgeNext_89 ?_
            refine k_afP (va_runV (rest := []) ⟨hx, hb, hml, hown, hts⟩ (m_X0_at l dC dI cI cJ hb9 ab M g (used + 4) (by first | assumption | decide)) (cwV 1 hts gX1_judgeNext_X0_at rfl rfl rfl hdv_X0_at ⟨Nat.le_of_ble_eq_true rfl, Nat.le_of_ble_eq_true rfl⟩) (k_preVP hK hP [9, 10] rfl 9 rfl rfl) rfl rfl hl.1 rfl (lv_room (Nat.le_of_ble_eq_true rfl)) dX1_judgeNext_90 ⟨Nat.le_of_ble_eq_true rfl, Nat.le_of_ble_eq_true rfl⟩) ?_
            refine lv_istore_n (lv' := [(2, .int (ca_at M g (used + 4))), (0, .ref r), (1, .ref hb9)]) hx hb dX1_judgeNext_93 rfl hl (by decide) rfl (fun ls hl => ?_)
            refine lv_iload_n hx hb dX1_judgeNext_94 rfl (lv_at hl 0 rfl) ?_
            refine lv_bipush (v := 20) hx hb dX1_judgeNext_95 (by decide) ?_
            refine lv_icmp_gt (tgt := 116) hx hb dX1_judgeNext_97 (by decide) (fun c6 => ?_) (fun c6 => ?_)
            · refine lv_iconst (v := 4) hx hb dX1_judgeNext_116 (by decide) ?_
              exact k_iretP (ret := none) hx hb hr hlocks (by simp only [rw_judge, if_pos c1, if_pos c2, if_pos c3, if_neg c4, if_pos c5, if_pos c6]) rfl dX1_judgeNext_117
            · refine lv_aload_n hx hb dX1_judgeNext_100 rfl (lv_at hl 1 rfl) ?_
              refine k_get (ci := 2) (T := TX1) (N := 8) (C := RX1) hx hb hts inX1 hown hK hP 0 rfl rfl 5 (by decide) fl47 rfl rfl dX1_judgeNext_101 ?_
              refine lv_bipush (v := 9) hx hb dX1_judgeNext_104 (by decide) ?_
              refine lv_iadd hx hb dX1_judgeNext_106 ?_
              refine lv_iload_n hx hb dX1_judgeNext_107 rfl (lv_at hl 0 rfl) ?_
              refine lv_iadd hx hb dX1_judgeNext_108 ?_
              refine lv_aload_n hx hb dX1_judgeNext_109 rfl (lv_at hl 2 rfl) ?_
              refine k_afP (va_runV (rest := [.int ((used + 9) + (ca_at M g (used + 4)))]) ⟨hx, hb, hml, hown, hts⟩ (m_X0_length l dC dI cI cJ hb9 ab M g ) (cwV 0 hts gX1_judgeNext_X0_length rfl rfl rfl hdv_X0_length ⟨Nat.le_of_ble_eq_true rfl, Nat.le_of_ble_eq_true rfl⟩) (k_preVP hK hP [9, 10] rfl 9 rfl rfl) rfl rfl hl.1 rfl (lv_room (Nat.le_of_ble_eq_true rfl)) dX1_judgeNext_110 ⟨Nat.le_of_ble_eq_true rfl, Nat.le_of_ble_eq_true rfl⟩) ?_
              refine lv_icmp_le (tgt := 118) hx hb dX1_judgeNext_113 (by decide) (fun c7 => ?_) (fun c7 => ?_)
              · refine lv_aload_n hx hb dX1_judgeNext_118 rfl (lv_at hl 2 rfl) ?_
                refine lv_aload_n hx hb dX1_judgeNext_119 rfl (lv_at hl 1 rfl) ?_
                refine k_get (ci := 2) (T := TX1) (N := 8) (C := RX1) hx hb hts inX1 hown hK hP 0 rfl rfl 5 (by decide) fl47 rfl rfl dX1_judgeNext_120 ?_
                refine lv_iconst (v := 5) hx hb dX1_judgeNext_123 (by decide) ?_
                refine lv_iadd hx hb dX1_judgeNext_124 ?_
                refine lv_iload_n hx hb dX1_judgeNext_125 rfl (lv_at hl 0 rfl) ?_
                refine lv_iadd hx hb dX1_judgeNext_126 ?_
                refine lv_iconst (v := 4) hx hb dX1_judgeNext_127 (by decide) ?_
                refine k_afP (va_runV (rest := []) ⟨hx, hb, hml, hown, hts⟩ (m_X0_numberAt l dC dI cI cJ hb9 ab M g ((used + 5) + (ca_at M g (used + 4))) 4 (by first | assumption | decide)) (cwV 2 hts gX1_judgeNext_X0_numberAt rfl rfl rfl hdv_X0_numberAt ⟨Nat.le_of_ble_eq_true rfl, Nat.le_of_ble_eq_true rfl⟩) (k_preVP hK hP [9, 10] rfl 9 rfl rfl) rfl rfl hl.1 rfl (lv_room (Nat.le_of_ble_eq_true rfl)) dX1_judgeNext_128 ⟨Nat.le_of_ble_eq_true rfl, Nat.le_of_ble_eq_true rfl⟩) ?_
                refine lv_aload_n hx hb dX1_judgeNext_131 rfl (lv_at hl 2 rfl) ?_
                refine lv_aload_n hx hb dX1_judgeNext_132 rfl (lv_at hl 1 rfl) ?_
                refine k_get (ci := 2) (T := TX1) (N := 8) (C := RX1) hx hb hts inX1 hown hK hP 0 rfl rfl 5 (by decide) fl47 rfl rfl dX1_judgeNext_133 ?_
                refine lv_iload_n hx hb dX1_judgeNext_136 rfl (lv_at hl 0 rfl) ?_
                refine k_afP (va_runSN (host := "StockLog") (rest := [.int (ca_num M g ((used + 5) + (ca_at M g (used + 4))) 4)]) ⟨hx, hb, hml, hown, hts⟩ (m_X2_sumOfRow l dC dI cI cJ hb9 ab M g used (ca_at M g (used + 4)) (by first | assumption | decide)) ⟨va_cnB 3 hts ggX1_judgeNext_X2_sumOfRow rfl rfl rfl (hK.2.2 (RX1, 61, yX2_sumOfRow, "StockLog") (by decide +kernel)) (hts (.initialized RX2) (by decide +kernel)) hdn_X2_sumOfRow ⟨Nat.le_of_ble_eq_true rfl, Nat.le_of_ble_eq_true rfl⟩, hts (.static yX2_sumOfRow) (by decide +kernel), trivial⟩ (k_preSP hK hP [9, 10] rfl) rfl rfl hl.1 rfl (lv_room (Nat.le_of_ble_eq_true rfl)) dX1_judgeNext_137 ⟨Nat.le_of_ble_eq_true rfl, Nat.le_of_ble_eq_true rfl⟩) ?_
                refine lv_icmp_eq (tgt := 145) hx hb dX1_judgeNext_140 (by decide) (fun c8 => ?_) (fun c8 => ?_)
                · refine lv_aload_n hx hb dX1_judgeNext_145 rfl (lv_at hl 2 rfl) ?_
                  refine lv_aload_n hx hb dX1_judgeNext_146 rfl (lv_at hl 1 rfl) ?_
                  refine k_get (ci := 2) (T := TX1) (N := 8) (C := RX1) hx hb hts inX1 hown hK hP 0 rfl rfl 5 (by decide) fl47 rfl rfl dX1_judgeNext_147 ?_
                  refine lv_iconst (v := 1) hx hb dX1_judgeNext_150 (by decide) ?_
                  refine lv_iadd hx hb dX1_judgeNext_151 ?_
                  refine k_afP (va_runV (rest := []) ⟨hx, hb, hml, hown, hts⟩ (m_X0_at l dC dI cI cJ hb9 ab M g (used + 1) (by first | assumption | decide)) (cwV 1 hts gX1_judgeNext_X0_at rfl rfl rfl hdv_X0_at ⟨Nat.le_of_ble_eq_true rfl, Nat.le_of_ble_eq_true rfl⟩) (k_preVP hK hP [9, 10] rfl 9 rfl rfl) rfl rfl hl.1 rfl (lv_room (Nat.le_of_ble_eq_true rfl)) dX1_judgeNext_152 ⟨Nat.le_of_ble_eq_true rfl, Nat.le_of_ble_eq_true rfl⟩) ?_
                  refine lv_iconst (v := 5) hx hb dX1_judgeNext_155 (by decide) ?_
                  refine lv_icmp_ne (tgt := 177) hx hb dX1_judgeNext_156 (by decide) (fun c9 => ?_) (fun c9 => ?_)
                  · refine lv_iconst (v := (-1)) hx hb dX1_judgeNext_177 (by decide) ?_
                    exact k_iretP (ret := none) hx hb hr hlocks (by simp only [rw_judge, if_pos c1, if_pos c2, if_pos c3, if_neg c4, if_pos c5, if_neg c6, if_pos c7, if_pos c8, if_neg c9]) rfl dX1_judgeNext_178
                  · refine lv_aload_n hx hb dX1_judgeNext_159 rfl (lv_at hl 1 rfl) ?_
                    refine lv_aload_n hx hb dX1_judgeNext_160 rfl (lv_at hl 2 rfl) ?_
                    refine lv_aload_n hx hb dX1_judgeNext_161 rfl (lv_at hl 1 rfl) ?_
                    refine k_get (ci := 2) (T := TX1) (N := 8) (C := RX1) hx hb hts inX1 hown hK hP 0 rfl rfl 5 (by decide) fl47 rfl rfl dX1_judgeNext_162 ?_
                    refine lv_iconst (v := 5) hx hb dX1_judgeNext_165 (by decide) ?_
                    refine lv_iadd hx hb dX1_judgeNext_166 ?_
                    refine lv_iload_n hx hb dX1_judgeNext_167 rfl (lv_at hl 0 rfl) ?_
                    refine k_afP (va_runV (rest := []) ⟨hx, hb, hml, hown, hts⟩ (m_X1_isState l dC dI cI cJ r qi ai qs aS qk ak qt aT N K fi fs fk ft last used lod uod hb9 ab M g (used + 5) (ca_at M g (used + 4)) (by first | assumption | decide) (by first | assumption | decide) (by first | assumption | decide)) (cwV 3 hts gX1_judgeNext_X1_isState rfl rfl rfl hdv_X1_isState ⟨Nat.le_of_ble_eq_true rfl, Nat.le_of_ble_eq_true rfl⟩) (k_preVP hK hP [0, 1, 2, 3, 4, 5, 6, 7, 8, 9, 10] rfl 0 rfl rfl) rfl rfl hl.1 rfl (lv_room (Nat.le_of_ble_eq_true rfl)) dX1_judgeNext_168 ⟨Nat.le_of_ble_eq_true rfl, Nat.le_of_ble_eq_true rfl⟩) ?_
                    refine lv_if_ne (tgt := 177) hx hb dX1_judgeNext_171 (by decide) (fun c10 => ?_) (fun c10 => ?_)
                    · refine lv_iconst (v := (-1)) hx hb dX1_judgeNext_177 (by decide) ?_
                      exact k_iretP (ret := none) hx hb hr hlocks (by simp only [rw_judge, if_pos c1, if_pos c2, if_pos c3, if_neg c4, if_pos c5, if_neg c6, if_pos c7, if_pos c8, if_pos c9, if_neg c10]) rfl dX1_judgeNext_178
                    · refine lv_bipush (v := 6) hx hb dX1_judgeNext_174 (by decide) ?_
                      exact k_iretP (ret := none) hx hb hr hlocks (by simp only [rw_judge, if_pos c1, if_pos c2, if_pos c3, if_neg c4, if_pos c5, if_neg c6, if_pos c7, if_pos c8, if_pos c9, if_pos c10]) rfl dX1_judgeNext_176
                · refine lv_iconst (v := 5) hx hb dX1_judgeNext_143 (by decide) ?_
                  exact k_iretP (ret := none) hx hb hr hlocks (by simp only [rw_judge, if_pos c1, if_pos c2, if_pos c3, if_neg c4, if_pos c5, if_neg c6, if_pos c7, if_neg c8]) rfl dX1_judgeNext_144
              · refine lv_iconst (v := 4) hx hb dX1_judgeNext_116 (by decide) ?_
                exact k_iretP (ret := none) hx hb hr hlocks (by simp only [rw_judge, if_pos c1, if_pos c2, if_pos c3, if_neg c4, if_pos c5, if_neg c6, if_neg c7]) rfl dX1_judgeNext_117
          · refine lv_iconst (v := 3) hx hb dX1_judgeNext_81 (by decide) ?_
            exact k_iretP (ret := none) hx hb hr hlocks (by simp only [rw_judge, if_pos c1, if_pos c2, if_pos c3, if_neg c4, if_neg c5]) rfl dX1_judgeNext_82
        · refine lv_iconst (v := 2) hx hb dX1_judgeNext_59 (by decide) ?_
          exact k_iretP (ret := none) hx hb hr hlocks (by simp only [rw_judge, if_pos c1, if_pos c2, if_pos c3, if_pos c4]) rfl dX1_judgeNext_60
      · refine lv_iconst (v := 4) hx hb dX1_judgeNext_41 (by decide) ?_
        exact k_iretP (ret := none) hx hb hr hlocks (by simp only [rw_judge, if_pos c1, if_pos c2, if_neg c3]) rfl dX1_judgeNext_42
    · refine lv_iconst (v := 1) hx hb dX1_judgeNext_26 (by decide) ?_
      exact k_iretP (ret := none) hx hb hr hlocks (by simp only [rw_judge, if_pos c1, if_neg c2]) rfl dX1_judgeNext_27
  · refine lv_iconst (v := 0) hx hb dX1_judgeNext_11 (by decide) ?_
    exact k_iretP (ret := none) hx hb hr hlocks (by simp only [rw_judge, if_neg c1]) rfl dX1_judgeNext_12
set_option maxHeartbeats 4000000 in
set_option maxRecDepth 100000 in
theorem m_X1_writeState (l : Launch) (dC : Nat → ClassId) (dI : Nat → Nat → Nat) (cI cJ : ClassId) (r : Nat) (qi : Nat) (ai : Nat) (qs : Nat) (aS : Nat) (qk : Nat) (ak : Nat) (qt : Nat) (aT : Nat) (N : Nat) (K : Nat) (fi : Nat → Int32) (fs : Nat → Int32) (fk : Nat → Int32) (ft : Nat → Int32) (last : Int32) (used : Int32) (lod : Int32) (uod : Int32) (hN : N < 2 ^ 31) (hK9 : K < 2 ^ 31) : cW l yX1_writeState wsX1_writeState ({ frames := 4, cells := 0, slots := 0, locals := 87 }) dC dI cI cJ [(r, .inr (2, [.ref qi, .ref qs, .ref qk, .ref qt, .int last, .int used, .int lod, .int uod])), (qi, .inr (1, [.ref ai])), (ai, .inl (cI, N, .inl fi)), (qs, .inr (1, [.ref aS])), (aS, .inl (cI, K, .inl fs)), (qk, .inr (1, [.ref ak])), (ak, .inl (cI, 6, .inl fk)), (qt, .inr (1, [.ref aT])), (aT, .inl (cI, 8, .inl ft))] [(r, .inr (2, [.ref qi, .ref qs, .ref qk, .ref qt, .int (last + 1), .int (rw_enU N K (rw_image N fi used last 5 8 8 (rw_fill ft fk)) fs last used), .int lod, .int uod])), (qi, .inr (1, [.ref ai])), (ai, .inl (cI, N, .inl (rw_image N fi used last 5 8 8 (rw_fill ft fk)))), (qs, .inr (1, [.ref aS])), (aS, .inl (cI, K, .inl (rw_enS K fs last used))), (qk, .inr (1, [.ref ak])), (ak, .inl (cI, 6, .inl (rw_enK N K (rw_image N fi used last 5 8 8 (rw_fill ft fk)) fs fk last used))), (qt, .inr (1, [.ref aT])), (aT, .inl (cI, 8, .inl (rw_fill ft fk)))] [r, qi, ai, qs, aS, qk, ak, qt, aT] [.ref r] (some (.int (last + 1))) := by
  refine Met.ofW (cc := cX1_writeState) (maxL := 1) (ret := (some .int)) (by decide) rfl ?_
  intro p e s m args below meth c s₁ B hml hv
  obtain ⟨rfl, hP, hK, hD0⟩ := hv
  have hx := B.exec
  have hb := B.bytes
  have hr := B.returns
  have hts := atoms_spec (ws := wsX1_writeState) B.pre
  have hown : s.vm.findClass RX1 = some m.cls := findClass_of_methodNamed B.named
  have hlocks := B.notSynchronized
  have inX1 : ∀ w ∈ wsX10, w ∈ wsX1_writeState := fun w h => (List.mem_cons_of_mem _ (List.mem_append_left _ (List.mem_append_right _ h)))
  have fl26 := hts (.fieldLink RX1 26 "StockLog$Rows" "state" "LStockLog$Cells;") (by decide +kernel)
  have hD : va_D (mA [r, qi, ai, qs, aS, qk, ak, qt, aT]) [(r, .inr (2, [.ref qi, .ref qs, .ref qk, .ref qt, .int last, .int used, .int lod, .int uod])), (qi, .inr (1, [.ref ai])), (ai, .inl (cI, N, .inl fi)), (qs, .inr (1, [.ref aS])), (aS, .inl (cI, K, .inl fs)), (qk, .inr (1, [.ref ak])), (ak, .inl (cI, 6, .inl fk)), (qt, .inr (1, [.ref aT])), (aT, .inl (cI, 8, .inl ft))] := k_Dw hD0 rfl
  have hS : va_S (mA [r, qi, ai, qs, aS, qk, ak, qt, aT]) s.heap s.heap [] := va_S.rf
  have hl := lv_entry ([.ref r]) (n := 1) (Nat.le_of_ble_eq_true rfl)
  rw [lg_entry_eq]
  generalize (lg_sl ([.ref r]) ++ List.replicate (1 - (lg_sl ([.ref r])).length) Slot.unset).toArray = ls at hl ⊢
  have hl : lv_has ls 1 [(0, .ref r)] := hl
  refine lv_aload_n hx hb dX1_writeState_0 rfl (lv_at hl 0 rfl) ?_
  refine k_afW (wc := [(r, .inr (2, [.ref qi, .ref qs, .ref qk, .ref qt, .int last, .int used, .int lod, .int uod])), (qi, .inr (1, [.ref ai])), (ai, .inl (cI, N, .inl fi)), (qs, .inr (1, [.ref aS])), (aS, .inl (cI, K, .inl fs)), (qk, .inr (1, [.ref ak])), (ak, .inl (cI, 6, .inl fk)), (qt, .inr (1, [.ref aT])), (aT, .inl (cI, 8, .inl ft))]) (ws' := [(r, .inr (2, [.ref qi, .ref qs, .ref qk, .ref qt, .int last, .int used, .int lod, .int uod])), (qi, .inr (1, [.ref ai])), (ai, .inl (cI, N, .inl fi)), (qs, .inr (1, [.ref aS])), (aS, .inl (cI, K, .inl fs)), (qk, .inr (1, [.ref ak])), (ak, .inl (cI, 6, .inl fk)), (qt, .inr (1, [.ref aT])), (aT, .inl (cI, 8, .inl (rw_fill ft fk)))]) (va_runV (rest := []) ⟨hx, hb, hml, hown, hts⟩ (m_X1_fillState l dC dI cI cJ r qi ai qs aS qk ak qt aT N K fi fs fk ft last used lod uod (by first | assumption | decide) (by first | assumption | decide)) (cwV 0 hts gX1_writeState_X1_fillState rfl rfl rfl hdv_X1_fillState ⟨Nat.le_of_ble_eq_true rfl, Nat.le_of_ble_eq_true rfl⟩) (k_preVW hK hP hD [0, 1, 2, 3, 4, 5, 6, 7, 8] rfl rfl 0 rfl rfl) rfl rfl hl.1 rfl (lv_room (Nat.le_of_ble_eq_true rfl)) dX1_writeState_1 ⟨Nat.le_of_ble_eq_true rfl, Nat.le_of_ble_eq_true rfl⟩) hP hD hS [0, 1, 2, 3, 4, 5, 6, 7, 8] rfl rfl rfl rfl (fun H locs hP hD hS => ?_)
  refine lv_aload_n hx hb dX1_writeState_4 rfl (lv_at hl 0 rfl) ?_
  refine lv_iconst (v := 5) hx hb dX1_writeState_5 (by decide) ?_
  refine lv_aload_n hx hb dX1_writeState_6 rfl (lv_at hl 0 rfl) ?_
  refine k_get (ci := 2) (T := TX1) (N := 8) (C := RX1) hx hb hts inX1 hown hK hP 0 rfl rfl 3 (by decide) fl26 rfl rfl dX1_writeState_7 ?_
  refine lv_bipush (v := 8) hx hb dX1_writeState_10 (by decide) ?_
  refine k_afW (wc := [(r, .inr (2, [.ref qi, .ref qs, .ref qk, .ref qt, .int last, .int used, .int lod, .int uod])), (qi, .inr (1, [.ref ai])), (ai, .inl (cI, N, .inl fi)), (qs, .inr (1, [.ref aS])), (aS, .inl (cI, K, .inl fs)), (qk, .inr (1, [.ref ak])), (ak, .inl (cI, 6, .inl fk)), (qt, .inr (1, [.ref aT])), (aT, .inl (cI, 8, .inl (rw_fill ft fk)))]) (ws' := [(r, .inr (2, [.ref qi, .ref qs, .ref qk, .ref qt, .int (last + 1), .int (rw_enU N K (rw_image N fi used last 5 8 8 (rw_fill ft fk)) fs last used), .int lod, .int uod])), (qi, .inr (1, [.ref ai])), (ai, .inl (cI, N, .inl (rw_image N fi used last 5 8 8 (rw_fill ft fk)))), (qs, .inr (1, [.ref aS])), (aS, .inl (cI, K, .inl (rw_enS K fs last used))), (qk, .inr (1, [.ref ak])), (ak, .inl (cI, 6, .inl (rw_enK N K (rw_image N fi used last 5 8 8 (rw_fill ft fk)) fs fk last used))), (qt, .inr (1, [.ref aT])), (aT, .inl (cI, 8, .inl (rw_fill ft fk)))]) (va_runV (rest := []) ⟨hx, hb, hml, hown, hts⟩ (m_X1_writeS l dC dI cI cJ r qi ai qs aS qk ak qt aT N K fi fs fk (rw_fill ft fk) last used lod uod 5 8 (by first | assumption | decide) (by first | assumption | decide)) (cwV 3 hts gX1_writeState_X1_write rfl rfl rfl hdv_X1_write ⟨Nat.le_of_ble_eq_true rfl, Nat.le_of_ble_eq_true rfl⟩) (k_preVW hK hP hD [0, 1, 2, 3, 4, 5, 6, 7, 8] rfl rfl 0 rfl rfl) rfl rfl hl.1 rfl (lv_room (Nat.le_of_ble_eq_true rfl)) dX1_writeState_12 ⟨Nat.le_of_ble_eq_true rfl, Nat.le_of_ble_eq_true rfl⟩) hP hD hS [0, 1, 2, 3, 4, 5, 6, 7, 8] rfl rfl rfl rfl (fun H locs hP hD hS => ?_)
  exact k_iretW hx hb hr hlocks hP hS rfl rfl dX1_writeState_15
set_option maxHeartbeats 4000000 in
set_option maxRecDepth 100000 in
theorem m_X1_read (l : Launch) (dC : Nat → ClassId) (dI : Nat → Nat → Nat) (cI cJ : ClassId) (r : Nat) (qi : Nat) (ai : Nat) (qs : Nat) (aS : Nat) (qk : Nat) (ak : Nat) (qt : Nat) (aT : Nat) (N : Nat) (K : Nat) (fi : Nat → Int32) (fs : Nat → Int32) (fk : Nat → Int32) (ft : Nat → Int32) (last : Int32) (used : Int32) (lod : Int32) (uod : Int32) (hb9 : Nat) (ab : Nat) (M : Nat) (g : Nat → Int32) (hN : N < 2 ^ 31) (hK9 : K < 2 ^ 31) (hM : M < 2 ^ 31) : cW l yX1_read wsX1_read ({ frames := 4, cells := 0, slots := 0, locals := 91 }) dC dI cI cJ [(r, .inr (2, [.ref qi, .ref qs, .ref qk, .ref qt, .int last, .int used, .int lod, .int uod])), (qi, .inr (1, [.ref ai])), (ai, .inl (cI, N, .inl fi)), (qs, .inr (1, [.ref aS])), (aS, .inl (cI, K, .inl fs)), (qk, .inr (1, [.ref ak])), (ak, .inl (cI, 6, .inl fk)), (qt, .inr (1, [.ref aT])), (aT, .inl (cI, 8, .inl ft)), (hb9, .inr (1, [.ref ab])), (ab, .inl (cI, M, .inl g))] [(r, .inr (2, [.ref qi, .ref qs, .ref qk, .ref qt, .int ((rw_read N K M g (fi, fs, fk, last, used)).1.2.2.2.1), .int ((rw_read N K M g (fi, fs, fk, last, used)).1.2.2.2.2), .int lod, .int uod])), (qi, .inr (1, [.ref ai])), (ai, .inl (cI, N, .inl ((rw_read N K M g (fi, fs, fk, last, used)).1.1))), (qs, .inr (1, [.ref aS])), (aS, .inl (cI, K, .inl ((rw_read N K M g (fi, fs, fk, last, used)).1.2.1))), (qk, .inr (1, [.ref ak])), (ak, .inl (cI, 6, .inl ((rw_read N K M g (fi, fs, fk, last, used)).1.2.2.1))), (qt, .inr (1, [.ref aT])), (aT, .inl (cI, 8, .inl ft)), (hb9, .inr (1, [.ref ab])), (ab, .inl (cI, M, .inl g))] [r, qi, ai, qs, aS, qk, ak, qt, aT, hb9, ab] [.ref r, .ref hb9] (some (.int ((rw_read N K M g (fi, fs, fk, last, used)).2))) := by
  refine Met.ofW (cc := cX1_read) (maxL := 5) (ret := (some .int)) (by decide) rfl ?_
  intro p e s m args below meth c s₁ B hml hv
  obtain ⟨rfl, hP, hK, hD0⟩ := hv
  have hx := B.exec
  have hb := B.bytes
  have hr := B.returns
  have hts := atoms_spec (ws := wsX1_read) B.pre
  have hown : s.vm.findClass RX1 = some m.cls := findClass_of_methodNamed B.named
  have hlocks := B.notSynchronized
  have inX1 : ∀ w ∈ wsX10, w ∈ wsX1_read := fun w h => (List.mem_cons_of_mem _ (List.mem_append_left _ (List.mem_append_right _ h)))
  have fl14 := hts (.fieldLink RX1 14 "StockLog$Rows" "image" "LStockLog$Cells;") (by decide +kernel)
  have fl47 := hts (.fieldLink RX1 47 "StockLog$Rows" "used" "I") (by decide +kernel)
  have hD : va_D (mA [r, qi, ai, qs, aS, qk, ak, qt, aT, hb9, ab]) [(r, .inr (2, [.ref qi, .ref qs, .ref qk, .ref qt, .int last, .int used, .int lod, .int uod])), (qi, .inr (1, [.ref ai])), (ai, .inl (cI, N, .inl fi)), (qs, .inr (1, [.ref aS])), (aS, .inl (cI, K, .inl fs)), (qk, .inr (1, [.ref ak])), (ak, .inl (cI, 6, .inl fk)), (qt, .inr (1, [.ref aT])), (aT, .inl (cI, 8, .inl ft)), (hb9, .inr (1, [.ref ab])), (ab, .inl (cI, M, .inl g))] := k_Dw hD0 rfl
  have hS : va_S (mA [r, qi, ai, qs, aS, qk, ak, qt, aT, hb9, ab]) s.heap s.heap [] := va_S.rf
  have hl := lv_entry ([.ref r, .ref hb9]) (n := 5) (Nat.le_of_ble_eq_true rfl)
  rw [lg_entry_eq]
  generalize (lg_sl ([.ref r, .ref hb9]) ++ List.replicate (5 - (lg_sl ([.ref r, .ref hb9])).length) Slot.unset).toArray = ls at hl ⊢
  have hl : lv_has ls 5 [(0, .ref r), (1, .ref hb9)] := hl
  refine lv_aload_n hx hb dX1_read_0 rfl (lv_at hl 0 rfl) ?_
  refine lv_aload_n hx hb dX1_read_1 rfl (lv_at hl 1 rfl) ?_
  refine k_afP (va_runV (rest := []) ⟨hx, hb, hml, hown, hts⟩ (m_X1_judgeNext l dC dI cI cJ r qi ai qs aS qk ak qt aT N K fi fs fk ft last used lod uod hb9 ab M g (by first | assumption | decide) (by first | assumption | decide) (by first | assumption | decide)) (cwV 1 hts gX1_read_X1_judgeNext rfl rfl rfl hdv_X1_judgeNext ⟨Nat.le_of_ble_eq_true rfl, Nat.le_of_ble_eq_true rfl⟩) (k_preVP hK hP [0, 1, 2, 3, 4, 5, 6, 7, 8, 9, 10] rfl 0 rfl rfl) rfl rfl hl.1 rfl (lv_room (Nat.le_of_ble_eq_true rfl)) dX1_read_2 ⟨Nat.le_of_ble_eq_true rfl, Nat.le_of_ble_eq_true rfl⟩) ?_
  refine lv_istore_n (lv' := [(2, .int (rw_judge M g fk last used)), (0, .ref r), (1, .ref hb9)]) hx hb dX1_read_5 rfl hl (by decide) rfl (fun ls hl => ?_)
  refine lv_iconst (v := 0) hx hb dX1_read_6 (by decide) ?_
  refine lv_istore_n (lv' := [(3, .int 0), (2, .int (rw_judge M g fk last used)), (0, .ref r), (1, .ref hb9)]) hx hb dX1_read_7 rfl hl (by decide) rfl (fun ls hl => ?_)
  have loop8 : ∀ (n : Nat) (i : Int32) (xi : Nat → Int32) (xs : Nat → Int32) (xk : Nat → Int32) (xl : Int32) (xu : Int32) (j : Int32) (H : Heap) (locs : List Loc) (ls : Array Slot), (loopE (nI M) (fun _ (y : RS × Int32) => rw_rstep N K M g y) id i ((xi, xs, xk, xl, xu), j) = rw_read N K M g (fi, fs, fk, last, used)) → ((nI M).toInt - i.toInt).toNat < n → va_P (dC, dI) vwCl [(r, .inr (2, [.ref qi, .ref qs, .ref qk, .ref qt, .int xl, .int xu, .int lod, .int uod])), (qi, .inr (1, [.ref ai])), (ai, .inl (cI, N, .inl xi)), (qs, .inr (1, [.ref aS])), (aS, .inl (cI, K, .inl xs)), (qk, .inr (1, [.ref ak])), (ak, .inl (cI, 6, .inl xk)), (qt, .inr (1, [.ref aT])), (aT, .inl (cI, 8, .inl ft)), (hb9, .inr (1, [.ref ab])), (ab, .inl (cI, M, .inl g))] H → va_D (mA [r, qi, ai, qs, aS, qk, ak, qt, aT, hb9, ab]) [(r, .inr (2, [.ref qi, .ref qs, .ref qk, .ref qt, .int xl, .int xu, .int lod, .int uod])), (qi, .inr (1, [.ref ai])), (ai, .inl (cI, N, .inl xi)), (qs, .inr (1, [.ref aS])), (aS, .inl (cI, K, .inl xs)), (qk, .inr (1, [.ref ak])), (ak, .inl (cI, 6, .inl xk)), (qt, .inr (1, [.ref aT])), (aT, .inl (cI, 8, .inl ft)), (hb9, .inr (1, [.ref ab])), (ab, .inl (cI, M, .inl g))] → va_S (mA [r, qi, ai, qs, aS, qk, ak, qt, aT, hb9, ab]) s.heap H locs → lv_has ls 5 [(3, .int i), (2, .int j), (0, .ref r), (1, .ref hb9)] → W p l e (headSpec wsX1_read ({ frames := 4, cells := 0, slots := 0, locals := 91 })).room s m ([.ref r, .ref hb9] : List Value).toArray below meth c H locs 0 0 (MQ below (mQ dC dI [(r, .inr (2, [.ref qi, .ref qs, .ref qk, .ref qt, .int ((rw_read N K M g (fi, fs, fk, last, used)).1.2.2.2.1), .int ((rw_read N K M g (fi, fs, fk, last, used)).1.2.2.2.2), .int lod, .int uod])), (qi, .inr (1, [.ref ai])), (ai, .inl (cI, N, .inl ((rw_read N K M g (fi, fs, fk, last, used)).1.1))), (qs, .inr (1, [.ref aS])), (aS, .inl (cI, K, .inl ((rw_read N K M g (fi, fs, fk, last, used)).1.2.1))), (qk, .inr (1, [.ref ak])), (ak, .inl (cI, 6, .inl ((rw_read N K M g (fi, fs, fk, last, used)).1.2.2.1))), (qt, .inr (1, [.ref aT])), (aT, .inl (cI, 8, .inl ft)), (hb9, .inr (1, [.ref ab])), (ab, .inl (cI, M, .inl g))] [r, qi, ai, qs, aS, qk, ak, qt, aT, hb9, ab] (some (.int ((rw_read N K M g (fi, fs, fk, last, used)).2)))) ([.ref r, .ref hb9] : List Value).toArray s 0 0 (mA [r, qi, ai, qs, aS, qk, ak, qt, aT, hb9, ab])) (F0 m 8 ls []) := by
    intro n
    induction n with
    | zero => intro i xi xs xk xl xu j H locs ls hi hm; exact absurd hm (Nat.not_lt_zero _)
    | succ n ih =>
      intro i xi xs xk xl xu j H locs ls hi hm hP hD hS hl
      refine lv_iload_n hx hb dX1_read_8 rfl (lv_at hl 0 rfl) ?_
      refine lv_aload_n hx hb dX1_read_9 rfl (lv_at hl 3 rfl) ?_
      refine k_afP (va_runV (rest := [.int i]) ⟨hx, hb, hml, hown, hts⟩ (m_X0_length l dC dI cI cJ hb9 ab M g ) (cwV 0 hts gX1_read_X0_length rfl rfl rfl hdv_X0_length ⟨Nat.le_of_ble_eq_true rfl, Nat.le_of_ble_eq_true rfl⟩) (k_preVP hK hP [9, 10] rfl 9 rfl rfl) rfl rfl hl.1 rfl (lv_room (Nat.le_of_ble_eq_true rfl)) dX1_read_10 ⟨Nat.le_of_ble_eq_true rfl, Nat.le_of_ble_eq_true rfl⟩) ?_
      refine lv_icmp_ge (tgt := 71) hx hb dX1_read_13 (by decide) (fun c1 => ?_) (fun c1 => ?_)
      · refine lv_iload_n hx hb dX1_read_71 rfl (lv_at hl 1 rfl) ?_
        exact k_iretW hx hb hr hlocks hP hS (by have hi2 := hi; rw [loopE_exit c1] at hi2; rw [← hi2]; rfl) (by have hi2 := hi; rw [loopE_exit c1] at hi2; rw [← hi2]; rfl) dX1_read_72
      · refine lv_iload_n hx hb dX1_read_16 rfl (lv_at hl 1 rfl) ?_
        refine lv_iconst (v := (-1)) hx hb dX1_read_17 (by decide) ?_
        refine lv_icmp_ne (tgt := 71) hx hb dX1_read_18 (by decide) (fun c2 => ?_) (fun c2 => ?_)
        · refine lv_iload_n hx hb dX1_read_71 rfl (lv_at hl 1 rfl) ?_
          exact k_iretW hx hb hr hlocks hP hS (by have hi2 := hi; rw [loopE_ret (r := ((xi, xs, xk, xl, xu), j)) c1 (by simp only [rw_rstep, if_neg c2])] at hi2; rw [← hi2]) (by have hi2 := hi; rw [loopE_ret (r := ((xi, xs, xk, xl, xu), j)) c1 (by simp only [rw_rstep, if_neg c2])] at hi2; rw [← hi2]) dX1_read_72
        · refine lv_aload_n hx hb dX1_read_21 rfl (lv_at hl 3 rfl) ?_
          refine lv_aload_n hx hb dX1_read_22 rfl (lv_at hl 2 rfl) ?_
          refine k_get (ci := 2) (T := TX1) (N := 8) (C := RX1) hx hb hts inX1 hown hK hP 0 rfl rfl 5 (by decide) fl47 rfl rfl dX1_read_23 ?_
          refine lv_iconst (v := 4) hx hb dX1_read_26 (by decide) ?_
          refine lv_iadd hx hb dX1_read_27 ?_
          refine k_afP (va_runV (rest := []) ⟨hx, hb, hml, hown, hts⟩ (m_X0_at l dC dI cI cJ hb9 ab M g (xu + 4) (by first | assumption | decide)) (cwV 1 hts gX1_read_X0_at rfl rfl rfl hdv_X0_at ⟨Nat.le_of_ble_eq_true rfl, Nat.le_of_ble_eq_true rfl⟩) (k_preVP hK hP [9, 10] rfl 9 rfl rfl) rfl rfl hl.1 rfl (lv_room (Nat.le_of_ble_eq_true rfl)) dX1_read_28 ⟨Nat.le_of_ble_eq_true rfl, Nat.le_of_ble_eq_true rfl⟩) ?_
          refine lv_istore (lv' := [(4, .int (ca_at M g (xu + 4))), (3, .int i), (2, .int j), (0, .ref r), (1, .ref hb9)]) hx hb dX1_read_31 hl (by decide) rfl (fun ls hl => ?_)
          refine lv_aload_n hx hb dX1_read_33 rfl (lv_at hl 3 rfl) ?_
          refine k_get (ci := 2) (T := TX1) (N := 8) (C := RX1) hx hb hts inX1 hown hK hP 0 rfl rfl 0 (by decide) fl14 rfl rfl dX1_read_34 ?_
          refine lv_aload_n hx hb dX1_read_37 rfl (lv_at hl 4 rfl) ?_
          refine lv_aload_n hx hb dX1_read_38 rfl (lv_at hl 3 rfl) ?_
          refine k_get (ci := 2) (T := TX1) (N := 8) (C := RX1) hx hb hts inX1 hown hK hP 0 rfl rfl 5 (by decide) fl47 rfl rfl dX1_read_39 ?_
          refine lv_aload_n hx hb dX1_read_42 rfl (lv_at hl 3 rfl) ?_
          refine k_get (ci := 2) (T := TX1) (N := 8) (C := RX1) hx hb hts inX1 hown hK hP 0 rfl rfl 5 (by decide) fl47 rfl rfl dX1_read_43 ?_
          refine lv_bipush (v := 9) hx hb dX1_read_46 (by decide) ?_
          refine lv_iadd hx hb dX1_read_48 ?_
          refine lv_iload hx hb dX1_read_49 (lv_at hl 0 rfl) ?_
          refine lv_iadd hx hb dX1_read_51 ?_
          refine k_afW (wc := [(qi, .inr (1, [.ref ai])), (ai, .inl (cI, N, .inl xi)), (hb9, .inr (1, [.ref ab])), (ab, .inl (cI, M, .inl g))]) (ws' := [(r, .inr (2, [.ref qi, .ref qs, .ref qk, .ref qt, .int xl, .int xu, .int lod, .int uod])), (qi, .inr (1, [.ref ai])), (ai, .inl (cI, N, .inl (ca_copy N xi M g xu ((xu + 9) + (ca_at M g (xu + 4)))))), (qs, .inr (1, [.ref aS])), (aS, .inl (cI, K, .inl xs)), (qk, .inr (1, [.ref ak])), (ak, .inl (cI, 6, .inl xk)), (qt, .inr (1, [.ref aT])), (aT, .inl (cI, 8, .inl ft)), (hb9, .inr (1, [.ref ab])), (ab, .inl (cI, M, .inl g))]) (va_runV (rest := []) ⟨hx, hb, hml, hown, hts⟩ (m_X0_copy l dC dI cI cJ qi ai N xi hb9 ab M g xu ((xu + 9) + (ca_at M g (xu + 4))) (by first | assumption | decide) (by first | assumption | decide)) (cwV 3 hts gX1_read_X0_copy rfl rfl rfl hdv_X0_copy ⟨Nat.le_of_ble_eq_true rfl, Nat.le_of_ble_eq_true rfl⟩) (k_preVW hK hP hD [1, 2, 9, 10] rfl rfl 1 rfl rfl) rfl rfl hl.1 rfl (lv_room (Nat.le_of_ble_eq_true rfl)) dX1_read_52 ⟨Nat.le_of_ble_eq_true rfl, Nat.le_of_ble_eq_true rfl⟩) hP hD hS [1, 2, 9, 10] rfl rfl rfl rfl (fun H locs hP hD hS => ?_)
          refine lv_aload_n hx hb dX1_read_55 rfl (lv_at hl 3 rfl) ?_
          refine k_afW (wc := [(r, .inr (2, [.ref qi, .ref qs, .ref qk, .ref qt, .int xl, .int xu, .int lod, .int uod])), (qi, .inr (1, [.ref ai])), (ai, .inl (cI, N, .inl (ca_copy N xi M g xu ((xu + 9) + (ca_at M g (xu + 4)))))), (qs, .inr (1, [.ref aS])), (aS, .inl (cI, K, .inl xs)), (qk, .inr (1, [.ref ak])), (ak, .inl (cI, 6, .inl xk)), (qt, .inr (1, [.ref aT])), (aT, .inl (cI, 8, .inl ft))]) (ws' := [(r, .inr (2, [.ref qi, .ref qs, .ref qk, .ref qt, .int (xl + 1), .int (rw_enU N K (ca_copy N xi M g xu ((xu + 9) + (ca_at M g (xu + 4)))) xs xl xu), .int lod, .int uod])), (qi, .inr (1, [.ref ai])), (ai, .inl (cI, N, .inl (ca_copy N xi M g xu ((xu + 9) + (ca_at M g (xu + 4)))))), (qs, .inr (1, [.ref aS])), (aS, .inl (cI, K, .inl (rw_enS K xs xl xu))), (qk, .inr (1, [.ref ak])), (ak, .inl (cI, 6, .inl (rw_enK N K (ca_copy N xi M g xu ((xu + 9) + (ca_at M g (xu + 4)))) xs xk xl xu))), (qt, .inr (1, [.ref aT])), (aT, .inl (cI, 8, .inl ft)), (hb9, .inr (1, [.ref ab])), (ab, .inl (cI, M, .inl g))]) (va_runV (rest := []) ⟨hx, hb, hml, hown, hts⟩ (m_X1_enlistNext l dC dI cI cJ r qi ai qs aS qk ak qt aT N K (ca_copy N xi M g xu ((xu + 9) + (ca_at M g (xu + 4)))) xs xk ft xl xu lod uod (by first | assumption | decide) (by first | assumption | decide)) (cwV 0 hts gX1_read_X1_enlistNext rfl rfl rfl hdv_X1_enlistNext ⟨Nat.le_of_ble_eq_true rfl, Nat.le_of_ble_eq_true rfl⟩) (k_preVW hK hP hD [0, 1, 2, 3, 4, 5, 6, 7, 8] rfl rfl 0 rfl rfl) rfl rfl hl.1 rfl (lv_room (Nat.le_of_ble_eq_true rfl)) dX1_read_56 ⟨Nat.le_of_ble_eq_true rfl, Nat.le_of_ble_eq_true rfl⟩) hP hD hS [0, 1, 2, 3, 4, 5, 6, 7, 8] rfl rfl rfl rfl (fun H locs hP hD hS => ?_)
          refine lv_aload_n hx hb dX1_read_59 rfl (lv_at hl 3 rfl) ?_
          refine lv_aload_n hx hb dX1_read_60 rfl (lv_at hl 4 rfl) ?_
          refine k_afP (va_runV (rest := []) ⟨hx, hb, hml, hown, hts⟩ (m_X1_judgeNext l dC dI cI cJ r qi ai qs aS qk ak qt aT N K (ca_copy N xi M g xu ((xu + 9) + (ca_at M g (xu + 4)))) (rw_enS K xs xl xu) (rw_enK N K (ca_copy N xi M g xu ((xu + 9) + (ca_at M g (xu + 4)))) xs xk xl xu) ft (xl + 1) (rw_enU N K (ca_copy N xi M g xu ((xu + 9) + (ca_at M g (xu + 4)))) xs xl xu) lod uod hb9 ab M g (by first | assumption | decide) (by first | assumption | decide) (by first | assumption | decide)) (cwV 1 hts gX1_read_X1_judgeNext rfl rfl rfl hdv_X1_judgeNext ⟨Nat.le_of_ble_eq_true rfl, Nat.le_of_ble_eq_true rfl⟩) (k_preVP hK hP [0, 1, 2, 3, 4, 5, 6, 7, 8, 9, 10] rfl 0 rfl rfl) rfl rfl hl.1 rfl (lv_room (Nat.le_of_ble_eq_true rfl)) dX1_read_61 ⟨Nat.le_of_ble_eq_true rfl, Nat.le_of_ble_eq_true rfl⟩) ?_
          refine lv_istore_n (lv' := [(2, .int (rw_judge M g (rw_enK N K (ca_copy N xi M g xu ((xu + 9) + (ca_at M g (xu + 4)))) xs xk xl xu) (xl + 1) (rw_enU N K (ca_copy N xi M g xu ((xu + 9) + (ca_at M g (xu + 4)))) xs xl xu))), (4, .int (ca_at M g (xu + 4))), (3, .int i), (0, .ref r), (1, .ref hb9)]) hx hb dX1_read_64 rfl hl (by decide) rfl (fun ls hl => ?_)
          refine lv_iinc (v := i + 1) (lv' := [(3, .int (i + 1)), (2, .int (rw_judge M g (rw_enK N K (ca_copy N xi M g xu ((xu + 9) + (ca_at M g (xu + 4)))) xs xk xl xu) (xl + 1) (rw_enU N K (ca_copy N xi M g xu ((xu + 9) + (ca_at M g (xu + 4)))) xs xl xu))), (4, .int (ca_at M g (xu + 4))), (0, .ref r), (1, .ref hb9)]) hx hb dX1_read_65 hl (k := 2) rfl rfl (by decide) rfl (fun ls hl => ?_)
          refine lv_goto (tgt := 8) hx hb dX1_read_68 (by decide) ?_
          exact ih (i + 1) (ca_copy N xi M g xu ((xu + 9) + (ca_at M g (xu + 4)))) (rw_enS K xs xl xu) (rw_enK N K (ca_copy N xi M g xu ((xu + 9) + (ca_at M g (xu + 4)))) xs xk xl xu) (xl + 1) (rw_enU N K (ca_copy N xi M g xu ((xu + 9) + (ca_at M g (xu + 4)))) xs xl xu) (rw_judge M g (rw_enK N K (ca_copy N xi M g xu ((xu + 9) + (ca_at M g (xu + 4)))) xs xk xl xu) (xl + 1) (rw_enU N K (ca_copy N xi M g xu ((xu + 9) + (ca_at M g (xu + 4)))) xs xl xu)) _ _ ls (by rw [loopE_go c1 (show rw_rstep N K M g _ = _ by simp only [rw_rstep, if_pos c2]; rfl)] at hi; exact hi) (k_meas c1 hm) hP hD hS (lv_sub hl [0, 1, 3, 4] rfl)
  exact loop8 _ 0 fi fs fk last used (rw_judge M g fk last used) _ _ ls rfl (Nat.lt_succ_self _) hP hD hS (lv_sub hl [0, 1, 2, 3] rfl)
