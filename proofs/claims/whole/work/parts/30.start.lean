theorem in_cX2 : Cond.classLink RL 8 RX2 ∈ lw_tbl := by decide +kernel
theorem in_cX3 : Cond.classLink RL 69 RX3 ∈ lw_tbl := by decide +kernel
theorem in_nX2 : Cond.initialized RX2 ∈ lw_tbl := by decide +kernel
theorem in_nX3 : Cond.initialized RX3 ∈ lw_tbl := by decide +kernel
theorem in_mX2 : Cond.methodLink RL 66 yX2_init ∈ lw_tbl := by decide +kernel
theorem in_mX3 : Cond.methodLink RL 71 yX3_init ∈ lw_tbl := by decide +kernel
theorem in_tX2 : Cond.instanceMethod yX2_init ∈ lw_tbl := by decide +kernel
theorem in_tX3 : Cond.instanceMethod yX3_init ∈ lw_tbl := by decide +kernel
section KJ
variable {p : Program} {l : Launch} {e : Env} {R : Room} {s : State} {m : MethodId} {args : Array Value} {below : List Frame} {meth : Method} {c : Code} {H : Heap} {locs : List Loc} {cells slots : Nat} {Q : State → Prop}
variable {dC : Nat → ClassId} {dI : Nat → Nat → Nat} {cI cJ : ClassId} {ws : va_W} {A : Nat → Prop} {pc : Nat} {ls : Array Slot} {rest : List Value}
theorem k_newaJ {cc : ByteArray} (hexec : p.tables.exec = Jvm.exec) (hb : c.code = cc) (harr : (Cond.arrayClass .long).before args s = true) (hK : gK dC dI cI cJ s) (hP : va_P (dC, dI) vwCl ws H) (hD : va_D A ws) (hS : va_S A s.heap H locs) (hA : ∀ q, s.heap.size ≤ q → A q)
    (hcells : cells + 1 ≤ R.cells) (hslots : slots + 1 ≤ R.slots) (hdg : decode cc pc = .ok (.newarray .long, 2))
    (kk : ∀ (q : Nat) (H1 : Heap), va_P (dC, dI) vwCl (ws ++ [(q, .inl (cJ, 1, .inr (.inl (fun _ => 0))))]) H1 → va_D A (ws ++ [(q, .inl (cJ, 1, .inr (.inl (fun _ => 0))))]) → va_S A s.heap H1 locs →
      W p l e R s m args below meth c H1 locs (cells + 1) (slots + 1) Q (F0 m (pc + 2) ls (.ref q :: rest))) : W p l e R s m args below meth c H locs cells slots Q (F0 m pc ls (.int 1 :: rest)) := by
  refine va_newa (atype := .long) (N' := 1) (a0 := (1, .inr (.inl (fun _ => 0)))) hexec hb (show (Cond.arrayClass (newarray.typeOf .long)).before args s = true from harr) (ty := .long) rfl hK.1 hP hD hS hA (fun _ => rfl) (by decide) (by decide) (by decide) hcells hslots hdg (fun q cA H1 hK1 hP1 hD1 hS1 => ?_)
  have e1 : s.vm.findClass ("[" ++ FieldType.long.toString) = some cA := (hK1.2 2 _ rfl).2
  have e2 : s.vm.findClass ("[" ++ FieldType.long.toString) = some cJ := (hK.1.2 1 _ rfl).2
  cases Option.some.inj (e1.symm.trans e2)
  exact kk q H1 hP1 hD1 hS1
end KJ
theorem sec_n (v : Int32) : ∃ n : Nat, 1 ≤ n ∧ n ≤ 64 ∧ mmax 1 (mmin 64 v) = nI n := by
  have h1 : mmin 64 v ≤ 64 := by
    unfold mmin
    split
    · exact Int32.le_of_lt ‹_›
    · exact Int32.le_refl _
  unfold mmax
  by_cases c : (1 : Int32) < mmin 64 v
  · rw [if_pos c]
    obtain ⟨j, hj, e⟩ := nI_of2 (x := mmin 64 v) (M := 64) (n := 64) (by decide) (Int32.not_lt.mpr (Int32.le_of_lt (Int32.lt_trans (by decide) c))) h1
    rw [e] at c
    exact ⟨j, by have := (nI_ltI (a := 1) (by omega) (by omega)).mp c; omega, hj, e⟩
  · rw [if_neg c]
    exact ⟨1, Nat.le_refl 1, by omega, rfl⟩
theorem rel0 {n : Nat} (h1 : 1 ≤ n) (h2 : n ≤ 64) : Rel n 0 0 0 (fun _ => 0) (fun _ => 0) (fun _ => 0) (fun _ => 0) (fun _ => 0) (fun _ => 0) (fun _ => 0) (fun _ => 0) (fun _ => 0) (fun _ => 0) (fun _ => 0) (fun _ => 0) (fun _ => 0) 1 0 :=
  ⟨h1, h2, Nat.le_refl 0, by omega, ⟨rfl, Nat.zero_le _, fun j hj => absurd hj (Nat.not_lt_zero j), fun j hj => rfl, fun j hj => absurd hj (Nat.not_lt_zero j), fun p hp => absurd hp (Nat.not_lt_zero p), fun k _ _ => rfl⟩, ⟨fun p _ => ⟨rfl, by8_n (m := 0) (by omega)⟩, fun j _ => by8_n (m := 0) (by omega)⟩, ⟨fun p _ => ⟨rfl, by8_n (m := 0) (by omega)⟩, fun j _ => by8_n (m := 0) (by omega)⟩, fun j hj => absurd hj (Nat.not_lt_zero j), Or.inr rfl, Or.inl rfl, fun _ => rfl⟩
set_option maxHeartbeats 4000000 in
set_option maxRecDepth 100000 in
theorem whole_start {p : Program} {e : Env} {s : State} {m : MethodId} {below : List Frame} {meth : Method} {c : Code} (l : Launch) (hst : l.stackTraces = false) {b L : Nat} {xs : Nat → Int32} (hL : L ≤ 2049) (C0 : lw_At p s m meth c b L xs) : W p l e room_1 s m #[Value.ref b] below meth c s.heap [] 0 0 (lw_Z below #[Value.ref b] s) (entryFrame m ([Value.ref b] : List Value).toArray 7) := by
  obtain ⟨dC, dI, cI, cJ, hK, hT, hZ, hN⟩ := law_facts C0
  have F : LFix l p s m meth c b L xs dC dI cI cJ := ⟨hL, C0, hst, hK, hT, hZ, hN⟩
  obtain ⟨hx, hb, hr, hml, hown0, hts0, hX, hbl, hlocks, hgv⟩ := C0
  have hown : s.vm.findClass RL = some m.cls := hown0
  have hts : ∀ w ∈ wqL_law, w.before #[Value.ref b] s = true := fun w h => hts0 w (wqL_law_in w h)
  have hA : ∀ q : Nat, s.heap.size ≤ q → lA s q := fun _ h => h
  have hS : va_S (lA s) s.heap s.heap [] := va_S.rf
  have hP : va_P (dC, dI) vwCl [] s.heap := fun k q h => by simp at h
  have hD : va_D (lA s) [] := ⟨fun i j p q h => by simp at h, fun k q h => by simp at h⟩
  have hl := lv_entry ([.ref b]) (n := 7) (Nat.le_of_ble_eq_true rfl)
  rw [lg_entry_eq]
  generalize (lg_sl ([.ref b]) ++ List.replicate (7 - (lg_sl ([.ref b])).length) Slot.unset).toArray = ls at hl ⊢
  have hl : lv_has ls 7 [(0, .ref b)] := hl
  obtain ⟨n, hn1, hn64, hsec⟩ := sec_n (if 0 < L then xs 0 else 0)
  refine va_new (D := (dC, dI)) (ci := 3) (fs := [.int 0, .null, .null, .null, .null, .int 0, .int 0, .int 0, .int 0]) (C := RX2) (T := TX2) (N := 9) hx hb hts0 in_wsX20 tyX2 tyX2_ok hown (hts0 _ in_cX2) (hts0 _ in_i3) (hts0 _ in_nX2) hK.1 hP hD hS hA rfl (fun j hj => by rcases (show j = 0 ∨ j = 1 ∨ j = 2 ∨ j = 3 ∨ j = 4 ∨ j = 5 ∨ j = 6 ∨ j = 7 ∨ j = 8 by omega) with rfl | rfl | rfl | rfl | rfl | rfl | rfl | rfl | rfl <;> rfl) (Nat.le_of_ble_eq_true rfl) (Nat.le_of_ble_eq_true rfl) dL_law_0 (fun o H hP hD hS => ?_)
  have hP : va_P (dC, dI) vwCl [(o, .inr (3, [.int 0, .null, .null, .null, .null, .int 0, .int 0, .int 0, .int 0]))] H := hP
  have hD : va_D (lA s) [(o, .inr (3, [.int 0, .null, .null, .null, .null, .int 0, .int 0, .int 0, .int 0]))] := hD
  refine lv_dup hx hb dL_law_3 rfl ?_
  refine lv_aload_n hx hb dL_law_4 rfl (lv_at hl 0 rfl) ?_
  refine lv_iconst (v := 0) hx hb dL_law_5 (by decide) ?_
  refine k_afP (va_runS (rest := [.ref o, .ref o]) ⟨hx, hb, hml, hown, hts⟩ (c_cell l b L xs hL) (va_cwS 2 hts gq_L_cell rfl rfl rfl (by decide +kernel) ⟨Nat.le_of_ble_eq_true rfl, Nat.le_of_ble_eq_true rfl⟩) (k_preX hX hbl hS) rfl rfl hl.1 rfl (lv_room (Nat.le_of_ble_eq_true rfl)) dL_law_6 ⟨(Nat.le_of_ble_eq_true rfl), (Nat.le_of_ble_eq_true rfl)⟩) ?_
  refine k_afC (wr := []) (va_runI (rest := [.ref o]) ⟨hx, hb, hml, hown, hts⟩ (m_X2_init l dC dI cI cJ o (if 0 < L then xs 0 else 0) n H.size hn64 hsec) (cwI 1 hts gq_X2_init rfl rfl rfl (hts0 _ in_nX2) (hts0 _ in_mX2) (hts0 _ in_tX2) rfl hdn_X2_init ⟨Nat.le_of_ble_eq_true rfl, Nat.le_of_ble_eq_true rfl⟩) (k_preC hK hP hD [0] rfl rfl) rfl rfl hl.1 rfl (lv_room (Nat.le_of_ble_eq_true rfl)) dL_law_9 ⟨(Nat.le_of_ble_eq_true rfl), (Nat.le_of_ble_eq_true rfl)⟩) hP hD hS hA [0] [] rfl rfl (by decide) (by decide) (fun w1 H locs hq hP hD hS => ?_)
  obtain ⟨qd, ad, qe, ae, qo, ao, r, qi, ai, qs, aS, qk, ak, qt, aT, rfl⟩ := hq
  have hP : va_P (dC, dI) vwCl [(o, .inr (3, [.int (nI n), .ref qd, .ref qe, .ref qo, .ref r, .int (nI 0), .int 0, .int 1, .int 0])), (qd, .inr (1, [.ref ad])), (ad, .inl (cI, n * 32, .inl (fun _ => 0))), (qe, .inr (1, [.ref ae])), (ae, .inl (cI, n * 32, .inl (fun _ => 0))), (qo, .inr (1, [.ref ao])), (ao, .inl (cI, 20, .inl (fun _ => 0))), (r, .inr (2, [.ref qi, .ref qs, .ref qk, .ref qt, .int (nI 0), .int (nI 0), .int (nI 0), .int (nI 0)])), (qi, .inr (1, [.ref ai])), (ai, .inl (cI, n * 32, .inl (fun _ => 0))), (qs, .inr (1, [.ref aS])), (aS, .inl (cI, n * 32 / 9 + 1, .inl (fun _ => 0))), (qk, .inr (1, [.ref ak])), (ak, .inl (cI, 6, .inl (fun _ => 0))), (qt, .inr (1, [.ref aT])), (aT, .inl (cI, 8, .inl (fun _ => 0)))] H := hP
  have hD : va_D (lA s) [(o, .inr (3, [.int (nI n), .ref qd, .ref qe, .ref qo, .ref r, .int (nI 0), .int 0, .int 1, .int 0])), (qd, .inr (1, [.ref ad])), (ad, .inl (cI, n * 32, .inl (fun _ => 0))), (qe, .inr (1, [.ref ae])), (ae, .inl (cI, n * 32, .inl (fun _ => 0))), (qo, .inr (1, [.ref ao])), (ao, .inl (cI, 20, .inl (fun _ => 0))), (r, .inr (2, [.ref qi, .ref qs, .ref qk, .ref qt, .int (nI 0), .int (nI 0), .int (nI 0), .int (nI 0)])), (qi, .inr (1, [.ref ai])), (ai, .inl (cI, n * 32, .inl (fun _ => 0))), (qs, .inr (1, [.ref aS])), (aS, .inl (cI, n * 32 / 9 + 1, .inl (fun _ => 0))), (qk, .inr (1, [.ref ak])), (ak, .inl (cI, 6, .inl (fun _ => 0))), (qt, .inr (1, [.ref aT])), (aT, .inl (cI, 8, .inl (fun _ => 0)))] := hD
  refine lv_astore_n (lv' := [(1, .ref o), (0, .ref b)]) hx hb dL_law_12 rfl hl (by decide) rfl (fun ls hl => ?_)
  refine va_new (D := (dC, dI)) (ci := 4) (fs := [.int 0, .null, .null, .int 0, .int 0, .null, .null, .int 0, .int 0, .int 0, .int 0, .null, .int 0]) (C := RX3) (T := TX3) (N := 13) hx hb hts0 in_wsX30 tyX3 tyX3_ok hown (hts0 _ in_cX3) (hts0 _ in_i4) (hts0 _ in_nX3) hK.1 hP hD hS hA rfl (fun j hj => by rcases (show j = 0 ∨ j = 1 ∨ j = 2 ∨ j = 3 ∨ j = 4 ∨ j = 5 ∨ j = 6 ∨ j = 7 ∨ j = 8 ∨ j = 9 ∨ j = 10 ∨ j = 11 ∨ j = 12 by omega) with rfl | rfl | rfl | rfl | rfl | rfl | rfl | rfl | rfl | rfl | rfl | rfl | rfl <;> rfl) (Nat.le_of_ble_eq_true rfl) (Nat.le_of_ble_eq_true rfl) dL_law_13 (fun h H hP hD hS => ?_)
  have hP : va_P (dC, dI) vwCl [(o, .inr (3, [.int (nI n), .ref qd, .ref qe, .ref qo, .ref r, .int (nI 0), .int 0, .int 1, .int 0])), (qd, .inr (1, [.ref ad])), (ad, .inl (cI, n * 32, .inl (fun _ => 0))), (qe, .inr (1, [.ref ae])), (ae, .inl (cI, n * 32, .inl (fun _ => 0))), (qo, .inr (1, [.ref ao])), (ao, .inl (cI, 20, .inl (fun _ => 0))), (r, .inr (2, [.ref qi, .ref qs, .ref qk, .ref qt, .int (nI 0), .int (nI 0), .int (nI 0), .int (nI 0)])), (qi, .inr (1, [.ref ai])), (ai, .inl (cI, n * 32, .inl (fun _ => 0))), (qs, .inr (1, [.ref aS])), (aS, .inl (cI, n * 32 / 9 + 1, .inl (fun _ => 0))), (qk, .inr (1, [.ref ak])), (ak, .inl (cI, 6, .inl (fun _ => 0))), (qt, .inr (1, [.ref aT])), (aT, .inl (cI, 8, .inl (fun _ => 0))), (h, .inr (4, [.int 0, .null, .null, .int 0, .int 0, .null, .null, .int 0, .int 0, .int 0, .int 0, .null, .int 0]))] H := hP
  have hD : va_D (lA s) [(o, .inr (3, [.int (nI n), .ref qd, .ref qe, .ref qo, .ref r, .int (nI 0), .int 0, .int 1, .int 0])), (qd, .inr (1, [.ref ad])), (ad, .inl (cI, n * 32, .inl (fun _ => 0))), (qe, .inr (1, [.ref ae])), (ae, .inl (cI, n * 32, .inl (fun _ => 0))), (qo, .inr (1, [.ref ao])), (ao, .inl (cI, 20, .inl (fun _ => 0))), (r, .inr (2, [.ref qi, .ref qs, .ref qk, .ref qt, .int (nI 0), .int (nI 0), .int (nI 0), .int (nI 0)])), (qi, .inr (1, [.ref ai])), (ai, .inl (cI, n * 32, .inl (fun _ => 0))), (qs, .inr (1, [.ref aS])), (aS, .inl (cI, n * 32 / 9 + 1, .inl (fun _ => 0))), (qk, .inr (1, [.ref ak])), (ak, .inl (cI, 6, .inl (fun _ => 0))), (qt, .inr (1, [.ref aT])), (aT, .inl (cI, 8, .inl (fun _ => 0))), (h, .inr (4, [.int 0, .null, .null, .int 0, .int 0, .null, .null, .int 0, .int 0, .int 0, .int 0, .null, .int 0]))] := hD
  refine lv_dup hx hb dL_law_16 rfl ?_
  refine lv_aload_n hx hb dL_law_17 rfl (lv_at hl 1 rfl) ?_
  refine lv_iconst (v := 0) hx hb dL_law_18 (by decide) ?_
  refine k_afP (va_runS (rest := [.ref h, .ref h]) ⟨hx, hb, hml, hown, hts⟩ (c_cell l b L xs hL) (va_cwS 2 hts gq_L_cell rfl rfl rfl (by decide +kernel) ⟨Nat.le_of_ble_eq_true rfl, Nat.le_of_ble_eq_true rfl⟩) (k_preX hX hbl hS) rfl rfl hl.1 rfl (lv_room (Nat.le_of_ble_eq_true rfl)) dL_law_19 ⟨(Nat.le_of_ble_eq_true rfl), (Nat.le_of_ble_eq_true rfl)⟩) ?_
  refine k_afC (wr := [(o, .inr (3, [.int (nI n), .ref qd, .ref qe, .ref qo, .ref r, .int (nI 0), .int 0, .int 1, .int 0])), (qd, .inr (1, [.ref ad])), (ad, .inl (cI, n * 32, .inl (fun _ => 0))), (qe, .inr (1, [.ref ae])), (ae, .inl (cI, n * 32, .inl (fun _ => 0))), (qo, .inr (1, [.ref ao])), (ao, .inl (cI, 20, .inl (fun _ => 0))), (r, .inr (2, [.ref qi, .ref qs, .ref qk, .ref qt, .int (nI 0), .int (nI 0), .int (nI 0), .int (nI 0)])), (qi, .inr (1, [.ref ai])), (ai, .inl (cI, n * 32, .inl (fun _ => 0))), (qs, .inr (1, [.ref aS])), (aS, .inl (cI, n * 32 / 9 + 1, .inl (fun _ => 0))), (qk, .inr (1, [.ref ak])), (ak, .inl (cI, 6, .inl (fun _ => 0))), (qt, .inr (1, [.ref aT])), (aT, .inl (cI, 8, .inl (fun _ => 0)))]) (va_runI (rest := [.ref h]) ⟨hx, hb, hml, hown, hts⟩ (m_X3_init l dC dI cI cJ h (if 0 < L then xs 0 else 0) n H.size hn64 hsec) (cwI 1 hts gq_X3_init rfl rfl rfl (hts0 _ in_nX3) (hts0 _ in_mX3) (hts0 _ in_tX3) rfl hdn_X3_init ⟨Nat.le_of_ble_eq_true rfl, Nat.le_of_ble_eq_true rfl⟩) (k_preC hK hP hD [16] rfl rfl) rfl rfl hl.1 rfl (lv_room (Nat.le_of_ble_eq_true rfl)) dL_law_22 ⟨(Nat.le_of_ble_eq_true rfl), (Nat.le_of_ble_eq_true rfl)⟩) hP hD hS hA [16] [0, 1, 2, 3, 4, 5, 6, 7, 8, 9, 10, 11, 12, 13, 14, 15] rfl rfl (by decide) (by decide) (fun w1 H locs hq hP hD hS => ?_)
  obtain ⟨d1, s1, i1, b1, t1, rfl⟩ := hq
  have hP : va_P (dC, dI) vwCl [(o, .inr (3, [.int (nI n), .ref qd, .ref qe, .ref qo, .ref r, .int (nI 0), .int 0, .int 1, .int 0])), (qd, .inr (1, [.ref ad])), (ad, .inl (cI, n * 32, .inl (fun _ => 0))), (qe, .inr (1, [.ref ae])), (ae, .inl (cI, n * 32, .inl (fun _ => 0))), (qo, .inr (1, [.ref ao])), (ao, .inl (cI, 20, .inl (fun _ => 0))), (r, .inr (2, [.ref qi, .ref qs, .ref qk, .ref qt, .int (nI 0), .int (nI 0), .int (nI 0), .int (nI 0)])), (qi, .inr (1, [.ref ai])), (ai, .inl (cI, n * 32, .inl (fun _ => 0))), (qs, .inr (1, [.ref aS])), (aS, .inl (cI, n * 32 / 9 + 1, .inl (fun _ => 0))), (qk, .inr (1, [.ref ak])), (ak, .inl (cI, 6, .inl (fun _ => 0))), (qt, .inr (1, [.ref aT])), (aT, .inl (cI, 8, .inl (fun _ => 0))), (h, .inr (4, [.int (nI (32 * n)), .ref d1, .ref s1, .int 0, .int 1, .ref i1, .ref b1, .int (nI 0), .int (nI 0), .int 0, .int 0, .ref t1, .int (nI 0)])), (d1, .inl (cI, 2048, .inl (fun _ => 0))), (s1, .inl (cI, 2048, .inl (fun _ => 0))), (i1, .inl (cI, 2080, .inl (fun _ => 0))), (b1, .inl (cI, 240, .inl (fun _ => 0))), (t1, .inl (cI, 20, .inl (fun _ => 0)))] H := hP
  have hD : va_D (lA s) [(o, .inr (3, [.int (nI n), .ref qd, .ref qe, .ref qo, .ref r, .int (nI 0), .int 0, .int 1, .int 0])), (qd, .inr (1, [.ref ad])), (ad, .inl (cI, n * 32, .inl (fun _ => 0))), (qe, .inr (1, [.ref ae])), (ae, .inl (cI, n * 32, .inl (fun _ => 0))), (qo, .inr (1, [.ref ao])), (ao, .inl (cI, 20, .inl (fun _ => 0))), (r, .inr (2, [.ref qi, .ref qs, .ref qk, .ref qt, .int (nI 0), .int (nI 0), .int (nI 0), .int (nI 0)])), (qi, .inr (1, [.ref ai])), (ai, .inl (cI, n * 32, .inl (fun _ => 0))), (qs, .inr (1, [.ref aS])), (aS, .inl (cI, n * 32 / 9 + 1, .inl (fun _ => 0))), (qk, .inr (1, [.ref ak])), (ak, .inl (cI, 6, .inl (fun _ => 0))), (qt, .inr (1, [.ref aT])), (aT, .inl (cI, 8, .inl (fun _ => 0))), (h, .inr (4, [.int (nI (32 * n)), .ref d1, .ref s1, .int 0, .int 1, .ref i1, .ref b1, .int (nI 0), .int (nI 0), .int 0, .int 0, .ref t1, .int (nI 0)])), (d1, .inl (cI, 2048, .inl (fun _ => 0))), (s1, .inl (cI, 2048, .inl (fun _ => 0))), (i1, .inl (cI, 2080, .inl (fun _ => 0))), (b1, .inl (cI, 240, .inl (fun _ => 0))), (t1, .inl (cI, 20, .inl (fun _ => 0)))] := hD
  refine lv_astore_n (lv' := [(2, .ref h), (1, .ref o), (0, .ref b)]) hx hb dL_law_25 rfl hl (by decide) rfl (fun ls hl => ?_)
  refine lv_iconst (v := 1) hx hb dL_law_26 (by decide) ?_
  refine k_newaJ hx hb (hts0 _ in_aJ) hK hP hD hS hA (Nat.le_of_ble_eq_true rfl) (Nat.le_of_ble_eq_true rfl) dL_law_27 (fun ja H hP hD hS => ?_)
  have hP : va_P (dC, dI) vwCl (wL cI cJ o qd ad qe ae qo ao r qi ai qs aS qk ak qt aT h d1 s1 i1 b1 t1 ja n 0 0 0 (fun _ => 0) (fun _ => 0) (fun _ => 0) (fun _ => 0) (fun _ => 0) (fun _ => 0) (fun _ => 0) (fun _ => 0) 0 1 0 0 0 0 (fun _ => 0) (fun _ => 0) (fun _ => 0) (fun _ => 0) (fun _ => 0) 0 1 0 0 (fun _ => 0)) H := hP
  have hD : va_D (lA s) (wL cI cJ o qd ad qe ae qo ao r qi ai qs aS qk ak qt aT h d1 s1 i1 b1 t1 ja n 0 0 0 (fun _ => 0) (fun _ => 0) (fun _ => 0) (fun _ => 0) (fun _ => 0) (fun _ => 0) (fun _ => 0) (fun _ => 0) 0 1 0 0 0 0 (fun _ => 0) (fun _ => 0) (fun _ => 0) (fun _ => 0) (fun _ => 0) 0 1 0 0 (fun _ => 0)) := hD
  refine lv_astore_n (lv' := [(3, .ref ja), (2, .ref h), (1, .ref o), (0, .ref b)]) hx hb dL_law_29 rfl hl (by decide) rfl (fun ls hl => ?_)
  refine lv_iconst (v := 1) hx hb dL_law_30 (by decide) ?_
  refine lv_istore (lv' := [(4, .int (nI 1)), (3, .ref ja), (2, .ref h), (1, .ref o), (0, .ref b)]) hx hb dL_law_31 hl (by decide) rfl (fun ls hl => ?_)
  exact law_loop F 512 1 _ _ (by omega) (by omega) (Nat.le_of_ble_eq_true rfl) (Nat.le_of_ble_eq_true rfl) 0 0 0 (fun _ => 0) (fun _ => 0) (fun _ => 0) (fun _ => 0) (fun _ => 0) (fun _ => 0) (fun _ => 0) (fun _ => 0) (fun _ => 0) (fun _ => 0) (fun _ => 0) (fun _ => 0) (fun _ => 0) (fun _ => 0) 0 1 0 0 (fun _ => 0) H locs ls (rel0 hn1 hn64) hP hD hS (lv_sub hl [4, 3, 2, 1, 0] rfl)
