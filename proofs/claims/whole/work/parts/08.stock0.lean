/-! STOCKLOG: what each method refuses, answers and leaves -/
def exKind (kind : Int32) : Option String := if sl_isKind kind = 0 then some xIAE else none
def exDown (up : Int32) : Option String := if up = 0 then some xISE else none
def exFull (N : Nat) (used length : Int32) : Option String := if ((used + 9) + length) ≤ (nI N) then none else some xUOE
def exPlace (se sector i : Int32) : Option String := if sector < 0 then some xAIE else if se ≤ sector then some xAIE else if i < 0 then some xAIE else if i < 32 then none else some xAIE
def exByte (N K : Nat) (fi fs : Nat → Int32) (number i : Int32) : Option String := if i < (rw_lengthOf N K fi fs number) then none else some xNSE
def exAdd (up tc b : Int32) : Option String := if b < 0 then some xIAE else if b ≤ 255 then (exDown up).or (if tc < 20 then none else some xUOE) else some xIAE
def exEnd (N : Nat) (up used tc kind : Int32) : Option String := if kind = 5 then some xIAE else (exKind kind).or ((exDown up).or ((exFull N used tc).or none))
def exWhole (N : Nat) (up used : Int32) : Option String := (exDown up).or ((exFull N used 8).or none)
def exOne (a : Option String) : Option String := a.or none
def exCut (up used uod keep mask : Int32) : Option String := if keep < 0 then some xIAE else if keep ≤ (used - uod) then (if mask < 0 then some xIAE else if mask ≤ 255 then (exDown up).or none else some xIAE) else some xIAE
def exPoke (se sector i mask : Int32) : Option String := if mask < 1 then some xIAE else if mask ≤ 255 then (exPlace se sector i).or none else some xIAE
def exRow (N K : Nat) (fi fs : Nat → Int32) (last number what : Int32) : Option String := if (if number < 1 then (0 : Int32) else if last < number then 0 else 1) = 0 then some xNSE else if what < 10 then (if what = 0 then none else if what = 1 then none else if what = 2 then none else some xIAE) else (exByte N K fi fs number (what - 10)).or none
def exFind (kind i : Int32) : Option String := (exKind kind).or (if 0 ≤ i then none else some xIAE)
def exRestore (bk : Int32) : Option String := if bk = 0 then some xISE else none
def sl_cut (N : Nat) (fd fi : Nat → Int32) (used uod keep mask : Int32) : Nat → Int32 := if mask = 0 then ca_copy N fd N fi uod (uod + keep) else if used ≤ (uod + keep) then ca_copy N fd N fi uod (uod + keep) else ca_set N (ca_copy N fd N fi uod (uod + keep)) (uod + keep) ((ca_at N fi (uod + keep)) ^^^ mask)
def sl_row (N K : Nat) (fi fs : Nat → Int32) (lod number what : Int32) : Int32 := if what < 10 then (if what = 0 then rw_kindOf N K fi fs number else if what = 1 then rw_lengthOf N K fi fs number else if what = 2 then (if lod < number then 0 else 1) else 0) else rw_byteAt N K fi fs number (what - 10)
def sl_tstep (N K : Nat) (fi fs : Nat → Int32) (kind number sum : Int32) : Int32 ⊕ Int32 := if rw_kindOf N K fi fs number = kind then .inl (sum + (rw_sumOfBytes N K fi fs number)) else .inl sum
def sl_total (N K : Nat) (fi fs : Nat → Int32) (last kind from_ to_ : Int32) : Int32 := loopE ((mmin last to_) + 1) (fun number (x : Int32) => sl_tstep N K fi fs kind number x) id (mmax 1 from_) 0
def sl_count (fk : Nat → Int32) (se tc up last used lod uod what : Int32) : Int32 := if what = 0 then se else if what = 1 then last else if what = 2 then lod else if what = 3 then used - uod else if what = 4 then tc else if what = 5 then (if up = 0 then 0 else 1) else if what = 6 then used else if what = 7 then ca_at 6 fk 5 else (-1)
theorem k_mmin {a b : Int32} (h : a < 2147483647) : mmin a b < 2147483647 := by
  unfold mmin
  split
  · exact Int32.lt_trans ‹_› h
  · exact h
def sl_read (N K : Nat) (fd fi fs fk : Nat → Int32) (last : Int32) : RS × Int32 := rw_read N K N fd (fi, fs, rw_drop N K fi fs fk last 0, 0, 0)
theorem hdn_X2_add : yX2_add.cls ≠ "java/lang/invoke/MethodHandle" ∧ yX2_add.cls ≠ "java/lang/invoke/VarHandle" ∧ (parseMethodDescriptor yX2_add.desc).map (fun d => d.parameters.length) = some 1 := by decide +kernel
theorem hdv_X2_add : yX2_add.cls = RX2 ∧ yX2_add.cls ≠ "java/lang/invoke/MethodHandle" ∧ yX2_add.cls ≠ "java/lang/invoke/VarHandle" ∧ (parseMethodDescriptor yX2_add.desc).map (fun d => d.parameters.length) = some 1 := ⟨rfl, hdn_X2_add⟩
theorem hdn_X2_backup : yX2_backup.cls ≠ "java/lang/invoke/MethodHandle" ∧ yX2_backup.cls ≠ "java/lang/invoke/VarHandle" ∧ (parseMethodDescriptor yX2_backup.desc).map (fun d => d.parameters.length) = some 0 := by decide +kernel
theorem hdv_X2_backup : yX2_backup.cls = RX2 ∧ yX2_backup.cls ≠ "java/lang/invoke/MethodHandle" ∧ yX2_backup.cls ≠ "java/lang/invoke/VarHandle" ∧ (parseMethodDescriptor yX2_backup.desc).map (fun d => d.parameters.length) = some 0 := ⟨rfl, hdn_X2_backup⟩
theorem hdn_X2_byteOf : yX2_byteOf.cls ≠ "java/lang/invoke/MethodHandle" ∧ yX2_byteOf.cls ≠ "java/lang/invoke/VarHandle" ∧ (parseMethodDescriptor yX2_byteOf.desc).map (fun d => d.parameters.length) = some 2 := by decide +kernel
theorem hdv_X2_byteOf : yX2_byteOf.cls = RX2 ∧ yX2_byteOf.cls ≠ "java/lang/invoke/MethodHandle" ∧ yX2_byteOf.cls ≠ "java/lang/invoke/VarHandle" ∧ (parseMethodDescriptor yX2_byteOf.desc).map (fun d => d.parameters.length) = some 2 := ⟨rfl, hdn_X2_byteOf⟩
theorem hdn_X2_byteOfRow : yX2_byteOfRow.cls ≠ "java/lang/invoke/MethodHandle" ∧ yX2_byteOfRow.cls ≠ "java/lang/invoke/VarHandle" ∧ (parseMethodDescriptor yX2_byteOfRow.desc).map (fun d => d.parameters.length) = some 2 := by decide +kernel
theorem hdv_X2_byteOfRow : yX2_byteOfRow.cls = RX2 ∧ yX2_byteOfRow.cls ≠ "java/lang/invoke/MethodHandle" ∧ yX2_byteOfRow.cls ≠ "java/lang/invoke/VarHandle" ∧ (parseMethodDescriptor yX2_byteOfRow.desc).map (fun d => d.parameters.length) = some 2 := ⟨rfl, hdn_X2_byteOfRow⟩
theorem hdn_X2_count : yX2_count.cls ≠ "java/lang/invoke/MethodHandle" ∧ yX2_count.cls ≠ "java/lang/invoke/VarHandle" ∧ (parseMethodDescriptor yX2_count.desc).map (fun d => d.parameters.length) = some 1 := by decide +kernel
theorem hdv_X2_count : yX2_count.cls = RX2 ∧ yX2_count.cls ≠ "java/lang/invoke/MethodHandle" ∧ yX2_count.cls ≠ "java/lang/invoke/VarHandle" ∧ (parseMethodDescriptor yX2_count.desc).map (fun d => d.parameters.length) = some 1 := ⟨rfl, hdn_X2_count⟩
theorem hdn_X2_cut : yX2_cut.cls ≠ "java/lang/invoke/MethodHandle" ∧ yX2_cut.cls ≠ "java/lang/invoke/VarHandle" ∧ (parseMethodDescriptor yX2_cut.desc).map (fun d => d.parameters.length) = some 2 := by decide +kernel
theorem hdv_X2_cut : yX2_cut.cls = RX2 ∧ yX2_cut.cls ≠ "java/lang/invoke/MethodHandle" ∧ yX2_cut.cls ≠ "java/lang/invoke/VarHandle" ∧ (parseMethodDescriptor yX2_cut.desc).map (fun d => d.parameters.length) = some 2 := ⟨rfl, hdn_X2_cut⟩
theorem hdn_X2_end : yX2_end.cls ≠ "java/lang/invoke/MethodHandle" ∧ yX2_end.cls ≠ "java/lang/invoke/VarHandle" ∧ (parseMethodDescriptor yX2_end.desc).map (fun d => d.parameters.length) = some 1 := by decide +kernel
theorem hdv_X2_end : yX2_end.cls = RX2 ∧ yX2_end.cls ≠ "java/lang/invoke/MethodHandle" ∧ yX2_end.cls ≠ "java/lang/invoke/VarHandle" ∧ (parseMethodDescriptor yX2_end.desc).map (fun d => d.parameters.length) = some 1 := ⟨rfl, hdn_X2_end⟩
theorem hdn_X2_find : yX2_find.cls ≠ "java/lang/invoke/MethodHandle" ∧ yX2_find.cls ≠ "java/lang/invoke/VarHandle" ∧ (parseMethodDescriptor yX2_find.desc).map (fun d => d.parameters.length) = some 2 := by decide +kernel
theorem hdv_X2_find : yX2_find.cls = RX2 ∧ yX2_find.cls ≠ "java/lang/invoke/MethodHandle" ∧ yX2_find.cls ≠ "java/lang/invoke/VarHandle" ∧ (parseMethodDescriptor yX2_find.desc).map (fun d => d.parameters.length) = some 2 := ⟨rfl, hdn_X2_find⟩
theorem hdn_X2_placeOf : yX2_placeOf.cls ≠ "java/lang/invoke/MethodHandle" ∧ yX2_placeOf.cls ≠ "java/lang/invoke/VarHandle" ∧ (parseMethodDescriptor yX2_placeOf.desc).map (fun d => d.parameters.length) = some 2 := by decide +kernel
theorem hdv_X2_placeOf : yX2_placeOf.cls = RX2 ∧ yX2_placeOf.cls ≠ "java/lang/invoke/MethodHandle" ∧ yX2_placeOf.cls ≠ "java/lang/invoke/VarHandle" ∧ (parseMethodDescriptor yX2_placeOf.desc).map (fun d => d.parameters.length) = some 2 := ⟨rfl, hdn_X2_placeOf⟩
theorem hdn_X2_poke : yX2_poke.cls ≠ "java/lang/invoke/MethodHandle" ∧ yX2_poke.cls ≠ "java/lang/invoke/VarHandle" ∧ (parseMethodDescriptor yX2_poke.desc).map (fun d => d.parameters.length) = some 3 := by decide +kernel
theorem hdv_X2_poke : yX2_poke.cls = RX2 ∧ yX2_poke.cls ≠ "java/lang/invoke/MethodHandle" ∧ yX2_poke.cls ≠ "java/lang/invoke/VarHandle" ∧ (parseMethodDescriptor yX2_poke.desc).map (fun d => d.parameters.length) = some 3 := ⟨rfl, hdn_X2_poke⟩
theorem hdn_X2_readDisk : yX2_readDisk.cls ≠ "java/lang/invoke/MethodHandle" ∧ yX2_readDisk.cls ≠ "java/lang/invoke/VarHandle" ∧ (parseMethodDescriptor yX2_readDisk.desc).map (fun d => d.parameters.length) = some 0 := by decide +kernel
theorem hdv_X2_readDisk : yX2_readDisk.cls = RX2 ∧ yX2_readDisk.cls ≠ "java/lang/invoke/MethodHandle" ∧ yX2_readDisk.cls ≠ "java/lang/invoke/VarHandle" ∧ (parseMethodDescriptor yX2_readDisk.desc).map (fun d => d.parameters.length) = some 0 := ⟨rfl, hdn_X2_readDisk⟩
theorem hdn_X2_refuseOtherKind : yX2_refuseOtherKind.cls ≠ "java/lang/invoke/MethodHandle" ∧ yX2_refuseOtherKind.cls ≠ "java/lang/invoke/VarHandle" ∧ (parseMethodDescriptor yX2_refuseOtherKind.desc).map (fun d => d.parameters.length) = some 1 := by decide +kernel
theorem hdv_X2_refuseOtherKind : yX2_refuseOtherKind.cls = RX2 ∧ yX2_refuseOtherKind.cls ≠ "java/lang/invoke/MethodHandle" ∧ yX2_refuseOtherKind.cls ≠ "java/lang/invoke/VarHandle" ∧ (parseMethodDescriptor yX2_refuseOtherKind.desc).map (fun d => d.parameters.length) = some 1 := ⟨rfl, hdn_X2_refuseOtherKind⟩
theorem hdn_X2_refuseWhenDown : yX2_refuseWhenDown.cls ≠ "java/lang/invoke/MethodHandle" ∧ yX2_refuseWhenDown.cls ≠ "java/lang/invoke/VarHandle" ∧ (parseMethodDescriptor yX2_refuseWhenDown.desc).map (fun d => d.parameters.length) = some 0 := by decide +kernel
theorem hdv_X2_refuseWhenDown : yX2_refuseWhenDown.cls = RX2 ∧ yX2_refuseWhenDown.cls ≠ "java/lang/invoke/MethodHandle" ∧ yX2_refuseWhenDown.cls ≠ "java/lang/invoke/VarHandle" ∧ (parseMethodDescriptor yX2_refuseWhenDown.desc).map (fun d => d.parameters.length) = some 0 := ⟨rfl, hdn_X2_refuseWhenDown⟩
theorem hdn_X2_refuseWhenFull : yX2_refuseWhenFull.cls ≠ "java/lang/invoke/MethodHandle" ∧ yX2_refuseWhenFull.cls ≠ "java/lang/invoke/VarHandle" ∧ (parseMethodDescriptor yX2_refuseWhenFull.desc).map (fun d => d.parameters.length) = some 1 := by decide +kernel
theorem hdv_X2_refuseWhenFull : yX2_refuseWhenFull.cls = RX2 ∧ yX2_refuseWhenFull.cls ≠ "java/lang/invoke/MethodHandle" ∧ yX2_refuseWhenFull.cls ≠ "java/lang/invoke/VarHandle" ∧ (parseMethodDescriptor yX2_refuseWhenFull.desc).map (fun d => d.parameters.length) = some 1 := ⟨rfl, hdn_X2_refuseWhenFull⟩
theorem hdn_X2_restore : yX2_restore.cls ≠ "java/lang/invoke/MethodHandle" ∧ yX2_restore.cls ≠ "java/lang/invoke/VarHandle" ∧ (parseMethodDescriptor yX2_restore.desc).map (fun d => d.parameters.length) = some 0 := by decide +kernel
theorem hdv_X2_restore : yX2_restore.cls = RX2 ∧ yX2_restore.cls ≠ "java/lang/invoke/MethodHandle" ∧ yX2_restore.cls ≠ "java/lang/invoke/VarHandle" ∧ (parseMethodDescriptor yX2_restore.desc).map (fun d => d.parameters.length) = some 0 := ⟨rfl, hdn_X2_restore⟩
theorem hdn_X2_row : yX2_row.cls ≠ "java/lang/invoke/MethodHandle" ∧ yX2_row.cls ≠ "java/lang/invoke/VarHandle" ∧ (parseMethodDescriptor yX2_row.desc).map (fun d => d.parameters.length) = some 2 := by decide +kernel
theorem hdv_X2_row : yX2_row.cls = RX2 ∧ yX2_row.cls ≠ "java/lang/invoke/MethodHandle" ∧ yX2_row.cls ≠ "java/lang/invoke/VarHandle" ∧ (parseMethodDescriptor yX2_row.desc).map (fun d => d.parameters.length) = some 2 := ⟨rfl, hdn_X2_row⟩
theorem hdn_X2_start : yX2_start.cls ≠ "java/lang/invoke/MethodHandle" ∧ yX2_start.cls ≠ "java/lang/invoke/VarHandle" ∧ (parseMethodDescriptor yX2_start.desc).map (fun d => d.parameters.length) = some 0 := by decide +kernel
theorem hdv_X2_start : yX2_start.cls = RX2 ∧ yX2_start.cls ≠ "java/lang/invoke/MethodHandle" ∧ yX2_start.cls ≠ "java/lang/invoke/VarHandle" ∧ (parseMethodDescriptor yX2_start.desc).map (fun d => d.parameters.length) = some 0 := ⟨rfl, hdn_X2_start⟩
theorem hdn_X2_sync : yX2_sync.cls ≠ "java/lang/invoke/MethodHandle" ∧ yX2_sync.cls ≠ "java/lang/invoke/VarHandle" ∧ (parseMethodDescriptor yX2_sync.desc).map (fun d => d.parameters.length) = some 0 := by decide +kernel
theorem hdv_X2_sync : yX2_sync.cls = RX2 ∧ yX2_sync.cls ≠ "java/lang/invoke/MethodHandle" ∧ yX2_sync.cls ≠ "java/lang/invoke/VarHandle" ∧ (parseMethodDescriptor yX2_sync.desc).map (fun d => d.parameters.length) = some 0 := ⟨rfl, hdn_X2_sync⟩
theorem hdn_X2_total : yX2_total.cls ≠ "java/lang/invoke/MethodHandle" ∧ yX2_total.cls ≠ "java/lang/invoke/VarHandle" ∧ (parseMethodDescriptor yX2_total.desc).map (fun d => d.parameters.length) = some 3 := by decide +kernel
theorem hdv_X2_total : yX2_total.cls = RX2 ∧ yX2_total.cls ≠ "java/lang/invoke/MethodHandle" ∧ yX2_total.cls ≠ "java/lang/invoke/VarHandle" ∧ (parseMethodDescriptor yX2_total.desc).map (fun d => d.parameters.length) = some 3 := ⟨rfl, hdn_X2_total⟩
theorem hdn_X2_whole : yX2_whole.cls ≠ "java/lang/invoke/MethodHandle" ∧ yX2_whole.cls ≠ "java/lang/invoke/VarHandle" ∧ (parseMethodDescriptor yX2_whole.desc).map (fun d => d.parameters.length) = some 0 := by decide +kernel
theorem hdv_X2_whole : yX2_whole.cls = RX2 ∧ yX2_whole.cls ≠ "java/lang/invoke/MethodHandle" ∧ yX2_whole.cls ≠ "java/lang/invoke/VarHandle" ∧ (parseMethodDescriptor yX2_whole.desc).map (fun d => d.parameters.length) = some 0 := ⟨rfl, hdn_X2_whole⟩
theorem hdn_X2_wrong : yX2_wrong.cls ≠ "java/lang/invoke/MethodHandle" ∧ yX2_wrong.cls ≠ "java/lang/invoke/VarHandle" ∧ (parseMethodDescriptor yX2_wrong.desc).map (fun d => d.parameters.length) = some 0 := by decide +kernel
theorem hdv_X2_wrong : yX2_wrong.cls = RX2 ∧ yX2_wrong.cls ≠ "java/lang/invoke/MethodHandle" ∧ yX2_wrong.cls ≠ "java/lang/invoke/VarHandle" ∧ (parseMethodDescriptor yX2_wrong.desc).map (fun d => d.parameters.length) = some 0 := ⟨rfl, hdn_X2_wrong⟩
set_option maxHeartbeats 4000000 in
set_option maxRecDepth 100000 in
theorem m_X2_refuseOtherKind (l : Launch) (dC : Nat → ClassId) (dI : Nat → Nat → Nat) (cI cJ : ClassId) (o : Nat) (qd : Nat) (qe : Nat) (qo : Nat) (r : Nat) (se : Int32) (tc : Int32) (fb : Int32) (up : Int32) (bk : Int32) (kind : Int32)  (hst : l.stackTraces = false) : cT l yX2_refuseOtherKind wsX2_refuseOtherKind ({ frames := 6, cells := 1, slots := 6, locals := 82 }) dC dI cI cJ [(o, .inr (3, [.int se, .ref qd, .ref qe, .ref qo, .ref r, .int tc, .int fb, .int up, .int bk]))] [(o, .inr (3, [.int se, .ref qd, .ref qe, .ref qo, .ref r, .int tc, .int fb, .int up, .int bk]))] [o] [.ref o, .int kind] (exKind kind) none 1 6 := by
  refine vx_ofW (cc := cX2_refuseOtherKind) (maxL := 2) (ret := none) (by decide) rfl ?_
  intro p e s m args below meth c s₁ B hml hno hv
  obtain ⟨rfl, hP, hK, hD0, hT, hZ⟩ := hv
  have hx := B.exec
  have hb := B.bytes
  have hr := B.returns
  have hts := atoms_spec (ws := wsX2_refuseOtherKind) B.pre
  have hown : s.vm.findClass RX2 = some m.cls := findClass_of_methodNamed B.named
  have hlocks := B.notSynchronized
  have xkIAE := hts (.classLink RX2 51 xIAE) (by decide +kernel)
  have xiIAE := hts (.initialized xIAE) (by decide +kernel)
  have xhIAE := vx_hat (fun w h => hts w (List.mem_cons_of_mem _ (List.mem_append_right _ h))) xbIAE (fun w h => va_Nw.use (gXW_on w h) (hT.1 w h))
  have hD : va_D (mA [o]) [(o, .inr (3, [.int se, .ref qd, .ref qe, .ref qo, .ref r, .int tc, .int fb, .int up, .int bk]))] := k_Dw hD0 rfl
  have hS : va_S (mA [o]) s.heap s.heap [] := va_S.rf
  have hl := lv_entry ([.ref o, .int kind]) (n := 2) (Nat.le_of_ble_eq_true rfl)
  rw [lg_entry_eq]
  generalize (lg_sl ([.ref o, .int kind]) ++ List.replicate (2 - (lg_sl ([.ref o, .int kind])).length) Slot.unset).toArray = ls at hl ⊢
  have hl : lv_has ls 2 [(0, .ref o), (1, .int kind)] := hl
  refine lv_iload_n hx hb dX2_refuseOtherKind_0 rfl (lv_at hl 1 rfl) ?_
  refine k_afP (va_runS (rest := []) ⟨hx, hb, hml, hown, hts⟩ (m_X2_isKind l dC dI cI cJ kind ) (cwS 1 hts gX2_refuseOtherKind_X2_isKind rfl rfl rfl hds_X2_isKind ⟨Nat.le_of_ble_eq_true rfl, Nat.le_of_ble_eq_true rfl⟩) (k_preSP hK hP [] rfl) rfl rfl hl.1 rfl (lv_room (Nat.le_of_ble_eq_true rfl)) dX2_refuseOtherKind_1 ⟨Nat.le_of_ble_eq_true rfl, Nat.le_of_ble_eq_true rfl⟩) ?_
  refine lv_if_ne (tgt := 17) hx hb dX2_refuseOtherKind_4 (by decide) (fun c1 => ?_) (fun c1 => ?_)
  · exact k_vretT hx hb hr hlocks hP hS (by simp only [exKind, if_neg c1]) rfl (Nat.le_of_ble_eq_true rfl) (Nat.le_of_ble_eq_true rfl) dX2_refuseOtherKind_17
  · exact k_throw (text := "no such kind") (names := xNIAE) hx hb hst hown (by decide +kernel) (by decide +kernel) xkIAE xiIAE xhIAE xgIAE hT (by decide +kernel) hZ hP hS (hl.1.trans hml.symm) dX2_refuseOtherKind_7 dX2_refuseOtherKind_10 dX2_refuseOtherKind_11 dX2_refuseOtherKind_13 dX2_refuseOtherKind_16 hno (Nat.le_of_ble_eq_true rfl) (Nat.le_of_ble_eq_true rfl) (Nat.le_of_ble_eq_true rfl) (Nat.le_of_ble_eq_true rfl) hlocks (by simp only [exKind, if_pos c1]) rfl (Nat.le_of_ble_eq_true rfl) (Nat.le_of_ble_eq_true rfl)
set_option maxHeartbeats 4000000 in
set_option maxRecDepth 100000 in
theorem m_X2_refuseWhenDown (l : Launch) (dC : Nat → ClassId) (dI : Nat → Nat → Nat) (cI cJ : ClassId) (o : Nat) (qd : Nat) (qe : Nat) (qo : Nat) (r : Nat) (se : Int32) (tc : Int32) (fb : Int32) (up : Int32) (bk : Int32)  (hst : l.stackTraces = false) : cT l yX2_refuseWhenDown wsX2_refuseWhenDown ({ frames := 6, cells := 1, slots := 6, locals := 82 }) dC dI cI cJ [(o, .inr (3, [.int se, .ref qd, .ref qe, .ref qo, .ref r, .int tc, .int fb, .int up, .int bk]))] [(o, .inr (3, [.int se, .ref qd, .ref qe, .ref qo, .ref r, .int tc, .int fb, .int up, .int bk]))] [o] [.ref o] (exDown up) none 1 6 := by
  refine vx_ofW (cc := cX2_refuseWhenDown) (maxL := 1) (ret := none) (by decide) rfl ?_
  intro p e s m args below meth c s₁ B hml hno hv
  obtain ⟨rfl, hP, hK, hD0, hT, hZ⟩ := hv
  have hx := B.exec
  have hb := B.bytes
  have hr := B.returns
  have hts := atoms_spec (ws := wsX2_refuseWhenDown) B.pre
  have hown : s.vm.findClass RX2 = some m.cls := findClass_of_methodNamed B.named
  have hlocks := B.notSynchronized
  have inX2 : ∀ w ∈ wsX20, w ∈ wsX2_refuseWhenDown := fun w h => (List.mem_cons_of_mem _ (List.mem_append_left _ (List.mem_append_right _ h)))
  have xkISE := hts (.classLink RX2 161 xISE) (by decide +kernel)
  have xiISE := hts (.initialized xISE) (by decide +kernel)
  have xhISE := vx_hat (fun w h => hts w (List.mem_cons_of_mem _ (List.mem_append_right _ h))) xbISE (fun w h => va_Nw.use (gXW_on w h) (hT.1 w h))
  have fl47 := hts (.fieldLink RX2 47 "StockLog" "up" "Z") (by decide +kernel)
  have hD : va_D (mA [o]) [(o, .inr (3, [.int se, .ref qd, .ref qe, .ref qo, .ref r, .int tc, .int fb, .int up, .int bk]))] := k_Dw hD0 rfl
  have hS : va_S (mA [o]) s.heap s.heap [] := va_S.rf
  have hl := lv_entry ([.ref o]) (n := 1) (Nat.le_of_ble_eq_true rfl)
  rw [lg_entry_eq]
  generalize (lg_sl ([.ref o]) ++ List.replicate (1 - (lg_sl ([.ref o])).length) Slot.unset).toArray = ls at hl ⊢
  have hl : lv_has ls 1 [(0, .ref o)] := hl
  refine lv_aload_n hx hb dX2_refuseWhenDown_0 rfl (lv_at hl 0 rfl) ?_
  refine k_get (ci := 3) (T := TX2) (N := 9) (C := RX2) hx hb hts inX2 hown hK hP 0 rfl rfl 7 (by decide) fl47 rfl rfl dX2_refuseWhenDown_1 ?_
  refine lv_if_ne (tgt := 17) hx hb dX2_refuseWhenDown_4 (by decide) (fun c1 => ?_) (fun c1 => ?_)
  · exact k_vretT hx hb hr hlocks hP hS (by simp only [exDown, if_neg c1]) rfl (Nat.le_of_ble_eq_true rfl) (Nat.le_of_ble_eq_true rfl) dX2_refuseWhenDown_17
  · exact k_throw (text := "the disk is down") (names := xNISE) hx hb hst hown (by decide +kernel) (by decide +kernel) xkISE xiISE xhISE xgISE hT (by decide +kernel) hZ hP hS (hl.1.trans hml.symm) dX2_refuseWhenDown_7 dX2_refuseWhenDown_10 dX2_refuseWhenDown_11 dX2_refuseWhenDown_13 dX2_refuseWhenDown_16 hno (Nat.le_of_ble_eq_true rfl) (Nat.le_of_ble_eq_true rfl) (Nat.le_of_ble_eq_true rfl) (Nat.le_of_ble_eq_true rfl) hlocks (by simp only [exDown, if_pos c1]) rfl (Nat.le_of_ble_eq_true rfl) (Nat.le_of_ble_eq_true rfl)
set_option maxHeartbeats 4000000 in
set_option maxRecDepth 100000 in
theorem m_X2_refuseWhenFull (l : Launch) (dC : Nat → ClassId) (dI : Nat → Nat → Nat) (cI cJ : ClassId) (o : Nat) (qd : Nat) (ad : Nat) (qe : Nat) (qo : Nat) (r : Nat) (qi : Nat) (qs : Nat) (qk : Nat) (qt : Nat) (N : Nat) (fd : Nat → Int32) (se : Int32) (tc : Int32) (fb : Int32) (up : Int32) (bk : Int32) (last : Int32) (used : Int32) (lod : Int32) (uod : Int32) (length : Int32)  (hst : l.stackTraces = false) : cT l yX2_refuseWhenFull wsX2_refuseWhenFull ({ frames := 6, cells := 1, slots := 6, locals := 82 }) dC dI cI cJ [(o, .inr (3, [.int se, .ref qd, .ref qe, .ref qo, .ref r, .int tc, .int fb, .int up, .int bk])), (qd, .inr (1, [.ref ad])), (ad, .inl (cI, N, .inl fd)), (r, .inr (2, [.ref qi, .ref qs, .ref qk, .ref qt, .int last, .int used, .int lod, .int uod]))] [(o, .inr (3, [.int se, .ref qd, .ref qe, .ref qo, .ref r, .int tc, .int fb, .int up, .int bk])), (qd, .inr (1, [.ref ad])), (ad, .inl (cI, N, .inl fd)), (r, .inr (2, [.ref qi, .ref qs, .ref qk, .ref qt, .int last, .int used, .int lod, .int uod]))] [o, qd, ad, r] [.ref o, .int length] (exFull N used length) none 1 6 := by
  refine vx_ofW (cc := cX2_refuseWhenFull) (maxL := 2) (ret := none) (by decide) rfl ?_
  intro p e s m args below meth c s₁ B hml hno hv
  obtain ⟨rfl, hP, hK, hD0, hT, hZ⟩ := hv
  have hx := B.exec
  have hb := B.bytes
  have hr := B.returns
  have hts := atoms_spec (ws := wsX2_refuseWhenFull) B.pre
  have hown : s.vm.findClass RX2 = some m.cls := findClass_of_methodNamed B.named
  have hlocks := B.notSynchronized
  have inX1 : ∀ w ∈ wsX10, w ∈ wsX2_refuseWhenFull := fun w h => (List.mem_cons_of_mem _ (List.mem_append_left _ (List.mem_append_left _ (List.mem_append_right _ h))))
  have inX2 : ∀ w ∈ wsX20, w ∈ wsX2_refuseWhenFull := fun w h => (List.mem_cons_of_mem _ (List.mem_append_left _ (List.mem_append_left _ (List.mem_append_left _ (List.mem_append_right _ h)))))
  have xkUOE := hts (.classLink RX2 64 xUOE) (by decide +kernel)
  have xiUOE := hts (.initialized xUOE) (by decide +kernel)
  have xhUOE := vx_hat (fun w h => hts w (List.mem_cons_of_mem _ (List.mem_append_right _ h))) xbUOE (fun w h => va_Nw.use (gXW_on w h) (hT.1 w h))
  have fl27 := hts (.fieldLink RX2 27 "StockLog" "disk" "LStockLog$Cells;") (by decide +kernel)
  have fl40 := hts (.fieldLink RX2 40 "StockLog" "rows" "LStockLog$Rows;") (by decide +kernel)
  have hD : va_D (mA [o, qd, ad, r]) [(o, .inr (3, [.int se, .ref qd, .ref qe, .ref qo, .ref r, .int tc, .int fb, .int up, .int bk])), (qd, .inr (1, [.ref ad])), (ad, .inl (cI, N, .inl fd)), (r, .inr (2, [.ref qi, .ref qs, .ref qk, .ref qt, .int last, .int used, .int lod, .int uod]))] := k_Dw hD0 rfl
  have hS : va_S (mA [o, qd, ad, r]) s.heap s.heap [] := va_S.rf
  have hl := lv_entry ([.ref o, .int length]) (n := 2) (Nat.le_of_ble_eq_true rfl)
  rw [lg_entry_eq]
  generalize (lg_sl ([.ref o, .int length]) ++ List.replicate (2 - (lg_sl ([.ref o, .int length])).length) Slot.unset).toArray = ls at hl ⊢
  have hl : lv_has ls 2 [(0, .ref o), (1, .int length)] := hl
  refine lv_aload_n hx hb dX2_refuseWhenFull_0 rfl (lv_at hl 0 rfl) ?_
  refine k_get (ci := 3) (T := TX2) (N := 9) (C := RX2) hx hb hts inX2 hown hK hP 0 rfl rfl 4 (by decide) fl40 rfl rfl dX2_refuseWhenFull_1 ?_
  refine k_getN (host := "StockLog") (ci := 2) (T := TX1) (N := 8) (C := RX1) hx hb hts inX1 hown hK hP 3 rfl rfl 5 (by decide) (by decide +kernel) rfl rfl dX2_refuseWhenFull_4 ?_
  refine lv_bipush (v := 9) hx hb dX2_refuseWhenFull_7 (by decide) ?_
  refine lv_iadd hx hb dX2_refuseWhenFull_9 ?_
  refine lv_iload_n hx hb dX2_refuseWhenFull_10 rfl (lv_at hl 1 rfl) ?_
  refine lv_iadd hx hb dX2_refuseWhenFull_11 ?_
  refine lv_aload_n hx hb dX2_refuseWhenFull_12 rfl (lv_at hl 0 rfl) ?_
  refine k_get (ci := 3) (T := TX2) (N := 9) (C := RX2) hx hb hts inX2 hown hK hP 0 rfl rfl 1 (by decide) fl27 rfl rfl dX2_refuseWhenFull_13 ?_
  refine k_afP (va_runV (rest := [.int ((used + 9) + length)]) ⟨hx, hb, hml, hown, hts⟩ (m_X0_length l dC dI cI cJ qd ad N fd ) (cwV 0 hts gX2_refuseWhenFull_X0_length rfl rfl rfl hdv_X0_length ⟨Nat.le_of_ble_eq_true rfl, Nat.le_of_ble_eq_true rfl⟩) (k_preVP hK hP [1, 2] rfl 1 rfl rfl) rfl rfl hl.1 rfl (lv_room (Nat.le_of_ble_eq_true rfl)) dX2_refuseWhenFull_16 ⟨Nat.le_of_ble_eq_true rfl, Nat.le_of_ble_eq_true rfl⟩) ?_
  refine lv_icmp_le (tgt := 32) hx hb dX2_refuseWhenFull_19 (by decide) (fun c1 => ?_) (fun c1 => ?_)
  · exact k_vretT hx hb hr hlocks hP hS (by simp only [exFull, if_pos c1]) rfl (Nat.le_of_ble_eq_true rfl) (Nat.le_of_ble_eq_true rfl) dX2_refuseWhenFull_32
  · exact k_throw (text := "the disk is full") (names := xNUOE) hx hb hst hown (by decide +kernel) (by decide +kernel) xkUOE xiUOE xhUOE xgUOE hT (by decide +kernel) hZ hP hS (hl.1.trans hml.symm) dX2_refuseWhenFull_22 dX2_refuseWhenFull_25 dX2_refuseWhenFull_26 dX2_refuseWhenFull_28 dX2_refuseWhenFull_31 hno (Nat.le_of_ble_eq_true rfl) (Nat.le_of_ble_eq_true rfl) (Nat.le_of_ble_eq_true rfl) (Nat.le_of_ble_eq_true rfl) hlocks (by simp only [exFull, if_neg c1]) rfl (Nat.le_of_ble_eq_true rfl) (Nat.le_of_ble_eq_true rfl)
set_option maxHeartbeats 4000000 in
set_option maxRecDepth 100000 in
theorem m_X2_placeOf (l : Launch) (dC : Nat → ClassId) (dI : Nat → Nat → Nat) (cI cJ : ClassId) (o : Nat) (qd : Nat) (qe : Nat) (qo : Nat) (r : Nat) (se : Int32) (tc : Int32) (fb : Int32) (up : Int32) (bk : Int32) (sector : Int32) (i : Int32)  (hst : l.stackTraces = false) : cT l yX2_placeOf wqX2_placeOf ({ frames := 7, cells := 1, slots := 6, locals := 95 }) dC dI cI cJ [(o, .inr (3, [.int se, .ref qd, .ref qe, .ref qo, .ref r, .int tc, .int fb, .int up, .int bk]))] [(o, .inr (3, [.int se, .ref qd, .ref qe, .ref qo, .ref r, .int tc, .int fb, .int up, .int bk]))] [o] [.ref o, .int sector, .int i] (exPlace se sector i) (some (.int ((sector * 32) + i))) 1 6 := by
  refine vx_ofW (cc := cX2_placeOf) (maxL := 3) (ret := (some .int)) (by decide) rfl ?_
  intro p e s m args below meth c s₁ B hml hno hv
  obtain ⟨rfl, hP, hK, hD0, hT, hZ⟩ := hv
  have hx := B.exec
  have hb := B.bytes
  have hr := B.returns
  have hts := atoms_spec (ws := wqX2_placeOf) B.pre
  have hown : s.vm.findClass RX2 = some m.cls := findClass_of_methodNamed B.named
  have hlocks := B.notSynchronized
  have inX2 : ∀ w ∈ wsX20, w ∈ wqX2_placeOf := fun w h => (List.mem_append_left _ (List.mem_cons_of_mem _ (List.mem_append_left _ (List.mem_append_right _ h))))
  have xkAIE := hts (.classLink RX2 184 xAIE) (by decide +kernel)
  have xiAIE := hts (.initialized xAIE) (by decide +kernel)
  have xhAIE := vx_hat (fun w h => hts w (List.mem_append_right _ h)) xbAIE (fun w h => va_Nw.use (gXW_on w h) (hT.1 w h))
  have fl18 := hts (.fieldLink RX2 18 "StockLog" "sectors" "I") (by decide +kernel)
  have hD : va_D (mA [o]) [(o, .inr (3, [.int se, .ref qd, .ref qe, .ref qo, .ref r, .int tc, .int fb, .int up, .int bk]))] := k_Dw hD0 rfl
  have hS : va_S (mA [o]) s.heap s.heap [] := va_S.rf
  have hl := lv_entry ([.ref o, .int sector, .int i]) (n := 3) (Nat.le_of_ble_eq_true rfl)
  rw [lg_entry_eq]
  generalize (lg_sl ([.ref o, .int sector, .int i]) ++ List.replicate (3 - (lg_sl ([.ref o, .int sector, .int i])).length) Slot.unset).toArray = ls at hl ⊢
  have hl : lv_has ls 3 [(0, .ref o), (1, .int sector), (2, .int i)] := hl
  refine lv_iload_n hx hb dX2_placeOf_0 rfl (lv_at hl 1 rfl) ?_
  refine lv_if_lt (tgt := 22) hx hb dX2_placeOf_1 (by decide) (fun c1 => ?_) (fun c1 => ?_)
  · exact k_throw (text := "no such byte of the disk") (names := xNAIE) hx hb hst hown (by decide +kernel) (by decide +kernel) xkAIE xiAIE xhAIE xgAIE hT (by decide +kernel) hZ hP hS (hl.1.trans hml.symm) dX2_placeOf_22 dX2_placeOf_25 dX2_placeOf_26 dX2_placeOf_28 dX2_placeOf_31 hno (Nat.le_of_ble_eq_true rfl) (Nat.le_of_ble_eq_true rfl) (Nat.le_of_ble_eq_true rfl) (Nat.le_of_ble_eq_true rfl) hlocks (by simp only [exPlace, if_pos c1]) rfl (Nat.le_of_ble_eq_true rfl) (Nat.le_of_ble_eq_true rfl)
  · refine lv_iload_n hx hb dX2_placeOf_4 rfl (lv_at hl 1 rfl) ?_
    refine lv_aload_n hx hb dX2_placeOf_5 rfl (lv_at hl 0 rfl) ?_
    refine k_get (ci := 3) (T := TX2) (N := 9) (C := RX2) hx hb hts inX2 hown hK hP 0 rfl rfl 0 (by decide) fl18 rfl rfl dX2_placeOf_6 ?_
    refine lv_icmp_ge (tgt := 22) hx hb dX2_placeOf_9 (by decide) (fun c2 => ?_) (fun c2 => ?_)
    · exact k_throw (text := "no such byte of the disk") (names := xNAIE) hx hb hst hown (by decide +kernel) (by decide +kernel) xkAIE xiAIE xhAIE xgAIE hT (by decide +kernel) hZ hP hS (hl.1.trans hml.symm) dX2_placeOf_22 dX2_placeOf_25 dX2_placeOf_26 dX2_placeOf_28 dX2_placeOf_31 hno (Nat.le_of_ble_eq_true rfl) (Nat.le_of_ble_eq_true rfl) (Nat.le_of_ble_eq_true rfl) (Nat.le_of_ble_eq_true rfl) hlocks (by simp only [exPlace, if_neg c1, if_pos c2]) rfl (Nat.le_of_ble_eq_true rfl) (Nat.le_of_ble_eq_true rfl)
    · refine lv_iload_n hx hb dX2_placeOf_12 rfl (lv_at hl 2 rfl) ?_
      refine lv_if_lt (tgt := 22) hx hb dX2_placeOf_13 (by decide) (fun c3 => ?_) (fun c3 => ?_)
      · exact k_throw (text := "no such byte of the disk") (names := xNAIE) hx hb hst hown (by decide +kernel) (by decide +kernel) xkAIE xiAIE xhAIE xgAIE hT (by decide +kernel) hZ hP hS (hl.1.trans hml.symm) dX2_placeOf_22 dX2_placeOf_25 dX2_placeOf_26 dX2_placeOf_28 dX2_placeOf_31 hno (Nat.le_of_ble_eq_true rfl) (Nat.le_of_ble_eq_true rfl) (Nat.le_of_ble_eq_true rfl) (Nat.le_of_ble_eq_true rfl) hlocks (by simp only [exPlace, if_neg c1, if_neg c2, if_pos c3]) rfl (Nat.le_of_ble_eq_true rfl) (Nat.le_of_ble_eq_true rfl)
      · refine lv_iload_n hx hb dX2_placeOf_16 rfl (lv_at hl 2 rfl) ?_
        refine lv_bipush (v := 32) hx hb dX2_placeOf_17 (by decide) ?_
        refine lv_icmp_lt (tgt := 32) hx hb dX2_placeOf_19 (by decide) (fun c4 => ?_) (fun c4 => ?_)
        · refine lv_iload_n hx hb dX2_placeOf_32 rfl (lv_at hl 1 rfl) ?_
          refine lv_bipush (v := 32) hx hb dX2_placeOf_33 (by decide) ?_
          refine lv_imul hx hb dX2_placeOf_35 ?_
          refine lv_iload_n hx hb dX2_placeOf_36 rfl (lv_at hl 2 rfl) ?_
          refine lv_iadd hx hb dX2_placeOf_37 ?_
          exact k_iretT hx hb hr hlocks hP hS (by simp only [exPlace, if_neg c1, if_neg c2, if_neg c3, if_pos c4]) rfl rfl (Nat.le_of_ble_eq_true rfl) (Nat.le_of_ble_eq_true rfl) dX2_placeOf_38
        · exact k_throw (text := "no such byte of the disk") (names := xNAIE) hx hb hst hown (by decide +kernel) (by decide +kernel) xkAIE xiAIE xhAIE xgAIE hT (by decide +kernel) hZ hP hS (hl.1.trans hml.symm) dX2_placeOf_22 dX2_placeOf_25 dX2_placeOf_26 dX2_placeOf_28 dX2_placeOf_31 hno (Nat.le_of_ble_eq_true rfl) (Nat.le_of_ble_eq_true rfl) (Nat.le_of_ble_eq_true rfl) (Nat.le_of_ble_eq_true rfl) hlocks (by simp only [exPlace, if_neg c1, if_neg c2, if_neg c3, if_neg c4]) rfl (Nat.le_of_ble_eq_true rfl) (Nat.le_of_ble_eq_true rfl)
set_option maxHeartbeats 4000000 in
set_option maxRecDepth 100000 in
theorem m_X2_byteOfRow (l : Launch) (dC : Nat → ClassId) (dI : Nat → Nat → Nat) (cI cJ : ClassId) (o : Nat) (qd : Nat) (qe : Nat) (qo : Nat) (r : Nat) (qi : Nat) (ai : Nat) (qs : Nat) (aS : Nat) (qk : Nat) (ak : Nat) (qt : Nat) (aT : Nat) (N : Nat) (K : Nat) (fi : Nat → Int32) (fs : Nat → Int32) (fk : Nat → Int32) (ft : Nat → Int32) (se : Int32) (tc : Int32) (fb : Int32) (up : Int32) (bk : Int32) (last : Int32) (used : Int32) (lod : Int32) (uod : Int32) (number : Int32) (i : Int32) (hN : N < 2 ^ 31) (hK9 : K < 2 ^ 31) (hst : l.stackTraces = false) : cT l yX2_byteOfRow wsX2_byteOfRow ({ frames := 6, cells := 1, slots := 6, locals := 82 }) dC dI cI cJ [(o, .inr (3, [.int se, .ref qd, .ref qe, .ref qo, .ref r, .int tc, .int fb, .int up, .int bk])), (r, .inr (2, [.ref qi, .ref qs, .ref qk, .ref qt, .int last, .int used, .int lod, .int uod])), (qi, .inr (1, [.ref ai])), (ai, .inl (cI, N, .inl fi)), (qs, .inr (1, [.ref aS])), (aS, .inl (cI, K, .inl fs)), (qk, .inr (1, [.ref ak])), (ak, .inl (cI, 6, .inl fk)), (qt, .inr (1, [.ref aT])), (aT, .inl (cI, 8, .inl ft))] [(o, .inr (3, [.int se, .ref qd, .ref qe, .ref qo, .ref r, .int tc, .int fb, .int up, .int bk])), (r, .inr (2, [.ref qi, .ref qs, .ref qk, .ref qt, .int last, .int used, .int lod, .int uod])), (qi, .inr (1, [.ref ai])), (ai, .inl (cI, N, .inl fi)), (qs, .inr (1, [.ref aS])), (aS, .inl (cI, K, .inl fs)), (qk, .inr (1, [.ref ak])), (ak, .inl (cI, 6, .inl fk)), (qt, .inr (1, [.ref aT])), (aT, .inl (cI, 8, .inl ft))] [o, r, qi, ai, qs, aS, qk, ak, qt, aT] [.ref o, .int number, .int i] (exByte N K fi fs number i) (some (.int (rw_byteAt N K fi fs number i))) 1 6 := by
  refine vx_ofW (cc := cX2_byteOfRow) (maxL := 3) (ret := (some .int)) (by decide) rfl ?_
  intro p e s m args below meth c s₁ B hml hno hv
  obtain ⟨rfl, hP, hK, hD0, hT, hZ⟩ := hv
  have hx := B.exec
  have hb := B.bytes
  have hr := B.returns
  have hts := atoms_spec (ws := wsX2_byteOfRow) B.pre
  have hown : s.vm.findClass RX2 = some m.cls := findClass_of_methodNamed B.named
  have hlocks := B.notSynchronized
  have inX2 : ∀ w ∈ wsX20, w ∈ wsX2_byteOfRow := fun w h => (List.mem_cons_of_mem _ (List.mem_append_left _ (List.mem_append_left _ (List.mem_append_left _ (List.mem_append_right _ h)))))
  have xkNSE := hts (.classLink RX2 134 xNSE) (by decide +kernel)
  have xiNSE := hts (.initialized xNSE) (by decide +kernel)
  have xhNSE := vx_hat (fun w h => hts w (List.mem_cons_of_mem _ (List.mem_append_right _ h))) xbNSE (fun w h => va_Nw.use (gXW_on w h) (hT.1 w h))
  have fl40 := hts (.fieldLink RX2 40 "StockLog" "rows" "LStockLog$Rows;") (by decide +kernel)
  have hD : va_D (mA [o, r, qi, ai, qs, aS, qk, ak, qt, aT]) [(o, .inr (3, [.int se, .ref qd, .ref qe, .ref qo, .ref r, .int tc, .int fb, .int up, .int bk])), (r, .inr (2, [.ref qi, .ref qs, .ref qk, .ref qt, .int last, .int used, .int lod, .int uod])), (qi, .inr (1, [.ref ai])), (ai, .inl (cI, N, .inl fi)), (qs, .inr (1, [.ref aS])), (aS, .inl (cI, K, .inl fs)), (qk, .inr (1, [.ref ak])), (ak, .inl (cI, 6, .inl fk)), (qt, .inr (1, [.ref aT])), (aT, .inl (cI, 8, .inl ft))] := k_Dw hD0 rfl
  have hS : va_S (mA [o, r, qi, ai, qs, aS, qk, ak, qt, aT]) s.heap s.heap [] := va_S.rf
  have hl := lv_entry ([.ref o, .int number, .int i]) (n := 3) (Nat.le_of_ble_eq_true rfl)
  rw [lg_entry_eq]
  generalize (lg_sl ([.ref o, .int number, .int i]) ++ List.replicate (3 - (lg_sl ([.ref o, .int number, .int i])).length) Slot.unset).toArray = ls at hl ⊢
  have hl : lv_has ls 3 [(0, .ref o), (1, .int number), (2, .int i)] := hl
  refine lv_iload_n hx hb dX2_byteOfRow_0 rfl (lv_at hl 2 rfl) ?_
  refine lv_aload_n hx hb dX2_byteOfRow_1 rfl (lv_at hl 0 rfl) ?_
  refine k_get (ci := 3) (T := TX2) (N := 9) (C := RX2) hx hb hts inX2 hown hK hP 0 rfl rfl 4 (by decide) fl40 rfl rfl dX2_byteOfRow_2 ?_
  refine lv_iload_n hx hb dX2_byteOfRow_5 rfl (lv_at hl 1 rfl) ?_
  refine k_afP (va_runV (rest := [.int i]) ⟨hx, hb, hml, hown, hts⟩ (m_X1_lengthOf l dC dI cI cJ r qi ai qs aS qk ak qt aT N K fi fs fk ft last used lod uod number (by first | assumption | decide) (by first | assumption | decide)) (cwV 1 hts gX2_byteOfRow_X1_lengthOf rfl rfl rfl hdv_X1_lengthOf ⟨Nat.le_of_ble_eq_true rfl, Nat.le_of_ble_eq_true rfl⟩) (k_preVP hK hP [1, 2, 3, 4, 5, 6, 7, 8, 9] rfl 1 rfl rfl) rfl rfl hl.1 rfl (lv_room (Nat.le_of_ble_eq_true rfl)) dX2_byteOfRow_6 ⟨Nat.le_of_ble_eq_true rfl, Nat.le_of_ble_eq_true rfl⟩) ?_
  refine lv_icmp_lt (tgt := 22) hx hb dX2_byteOfRow_9 (by decide) (fun c1 => ?_) (fun c1 => ?_)
  · refine lv_aload_n hx hb dX2_byteOfRow_22 rfl (lv_at hl 0 rfl) ?_
    refine k_get (ci := 3) (T := TX2) (N := 9) (C := RX2) hx hb hts inX2 hown hK hP 0 rfl rfl 4 (by decide) fl40 rfl rfl dX2_byteOfRow_23 ?_
    refine lv_iload_n hx hb dX2_byteOfRow_26 rfl (lv_at hl 1 rfl) ?_
    refine lv_iload_n hx hb dX2_byteOfRow_27 rfl (lv_at hl 2 rfl) ?_
    refine k_afP (va_runV (rest := []) ⟨hx, hb, hml, hown, hts⟩ (m_X1_byteAt l dC dI cI cJ r qi ai qs aS qk ak qt aT N K fi fs fk ft last used lod uod number i (by first | assumption | decide) (by first | assumption | decide)) (cwV 2 hts gX2_byteOfRow_X1_byteAt rfl rfl rfl hdv_X1_byteAt ⟨Nat.le_of_ble_eq_true rfl, Nat.le_of_ble_eq_true rfl⟩) (k_preVP hK hP [1, 2, 3, 4, 5, 6, 7, 8, 9] rfl 1 rfl rfl) rfl rfl hl.1 rfl (lv_room (Nat.le_of_ble_eq_true rfl)) dX2_byteOfRow_28 ⟨Nat.le_of_ble_eq_true rfl, Nat.le_of_ble_eq_true rfl⟩) ?_
    exact k_iretT hx hb hr hlocks hP hS (by simp only [exByte, if_pos c1]) rfl rfl (Nat.le_of_ble_eq_true rfl) (Nat.le_of_ble_eq_true rfl) dX2_byteOfRow_31
  · exact k_throw (text := "no such byte of the row") (names := xNNSE) hx hb hst hown (by decide +kernel) (by decide +kernel) xkNSE xiNSE xhNSE xgNSE hT (by decide +kernel) hZ hP hS (hl.1.trans hml.symm) dX2_byteOfRow_12 dX2_byteOfRow_15 dX2_byteOfRow_16 dX2_byteOfRow_18 dX2_byteOfRow_21 hno (Nat.le_of_ble_eq_true rfl) (Nat.le_of_ble_eq_true rfl) (Nat.le_of_ble_eq_true rfl) (Nat.le_of_ble_eq_true rfl) hlocks (by simp only [exByte, if_neg c1]) rfl (Nat.le_of_ble_eq_true rfl) (Nat.le_of_ble_eq_true rfl)
set_option maxHeartbeats 4000000 in
set_option maxRecDepth 100000 in
theorem m_X2_add (l : Launch) (dC : Nat → ClassId) (dI : Nat → Nat → Nat) (cI cJ : ClassId) (o : Nat) (qd : Nat) (ad : Nat) (qe : Nat) (ae : Nat) (qo : Nat) (ao : Nat) (r : Nat) (qi : Nat) (ai : Nat) (qs : Nat) (aS : Nat) (qk : Nat) (ak : Nat) (qt : Nat) (aT : Nat) (N : Nat) (K : Nat) (fd : Nat → Int32) (fe : Nat → Int32) (fo : Nat → Int32) (fi : Nat → Int32) (fs : Nat → Int32) (fk : Nat → Int32) (ft : Nat → Int32) (se : Int32) (tc : Int32) (fb : Int32) (up : Int32) (bk : Int32) (last : Int32) (used : Int32) (lod : Int32) (uod : Int32) (b : Int32) (hN : N < 2 ^ 31) (hK9 : K < 2 ^ 31) (hst : l.stackTraces = false) : cT l yX2_add wsX2_add ({ frames := 7, cells := 2, slots := 12, locals := 102 }) dC dI cI cJ [(o, .inr (3, [.int se, .ref qd, .ref qe, .ref qo, .ref r, .int tc, .int fb, .int up, .int bk])), (qd, .inr (1, [.ref ad])), (ad, .inl (cI, N, .inl fd)), (qe, .inr (1, [.ref ae])), (ae, .inl (cI, N, .inl fe)), (qo, .inr (1, [.ref ao])), (ao, .inl (cI, 20, .inl fo)), (r, .inr (2, [.ref qi, .ref qs, .ref qk, .ref qt, .int last, .int used, .int lod, .int uod])), (qi, .inr (1, [.ref ai])), (ai, .inl (cI, N, .inl fi)), (qs, .inr (1, [.ref aS])), (aS, .inl (cI, K, .inl fs)), (qk, .inr (1, [.ref ak])), (ak, .inl (cI, 6, .inl fk)), (qt, .inr (1, [.ref aT])), (aT, .inl (cI, 8, .inl ft))] [(o, .inr (3, [.int se, .ref qd, .ref qe, .ref qo, .ref r, .int (tc + 1), .int fb, .int up, .int bk])), (qd, .inr (1, [.ref ad])), (ad, .inl (cI, N, .inl fd)), (qe, .inr (1, [.ref ae])), (ae, .inl (cI, N, .inl fe)), (qo, .inr (1, [.ref ao])), (ao, .inl (cI, 20, .inl (ca_set 20 fo tc b))), (r, .inr (2, [.ref qi, .ref qs, .ref qk, .ref qt, .int last, .int used, .int lod, .int uod])), (qi, .inr (1, [.ref ai])), (ai, .inl (cI, N, .inl fi)), (qs, .inr (1, [.ref aS])), (aS, .inl (cI, K, .inl fs)), (qk, .inr (1, [.ref ak])), (ak, .inl (cI, 6, .inl fk)), (qt, .inr (1, [.ref aT])), (aT, .inl (cI, 8, .inl ft))] [o, qd, ad, qe, ae, qo, ao, r, qi, ai, qs, aS, qk, ak, qt, aT] [.ref o, .int b] (exAdd up tc b) (some (.int (tc + 1))) 2 12 := by
  refine vx_ofW (cc := cX2_add) (maxL := 2) (ret := (some .int)) (by decide) rfl ?_
  intro p e s m args below meth c s₁ B hml hno hv
  obtain ⟨rfl, hP, hK, hD0, hT, hZ⟩ := hv
  have hx := B.exec
  have hb := B.bytes
  have hr := B.returns
  have hts := atoms_spec (ws := wsX2_add) B.pre
  have hown : s.vm.findClass RX2 = some m.cls := findClass_of_methodNamed B.named
  have hlocks := B.notSynchronized
  have inX2 : ∀ w ∈ wsX20, w ∈ wsX2_add := fun w h => (List.mem_cons_of_mem _ (List.mem_append_left _ (List.mem_append_left _ (List.mem_append_left _ (List.mem_append_left _ (List.mem_append_right _ h))))))
  have xkIAE := hts (.classLink RX2 51 xIAE) (by decide +kernel)
  have xiIAE := hts (.initialized xIAE) (by decide +kernel)
  have xhIAE := vx_hat (fun w h => hts w (List.mem_cons_of_mem _ (List.mem_append_left _ (List.mem_append_left _ (List.mem_append_right _ h))))) xbIAE (fun w h => va_Nw.use (gXW_on w h) (hT.1 w h))
  have xkUOE := hts (.classLink RX2 64 xUOE) (by decide +kernel)
  have xiUOE := hts (.initialized xUOE) (by decide +kernel)
  have xhUOE := vx_hat (fun w h => hts w (List.mem_cons_of_mem _ (List.mem_append_left _ (List.mem_append_right _ h)))) xbUOE (fun w h => va_Nw.use (gXW_on w h) (hT.1 w h))
  have fl34 := hts (.fieldLink RX2 34 "StockLog" "told" "LStockLog$Cells;") (by decide +kernel)
  have fl61 := hts (.fieldLink RX2 61 "StockLog" "toldCount" "I") (by decide +kernel)
  have hD : va_D (mA [o, qd, ad, qe, ae, qo, ao, r, qi, ai, qs, aS, qk, ak, qt, aT]) [(o, .inr (3, [.int se, .ref qd, .ref qe, .ref qo, .ref r, .int tc, .int fb, .int up, .int bk])), (qd, .inr (1, [.ref ad])), (ad, .inl (cI, N, .inl fd)), (qe, .inr (1, [.ref ae])), (ae, .inl (cI, N, .inl fe)), (qo, .inr (1, [.ref ao])), (ao, .inl (cI, 20, .inl fo)), (r, .inr (2, [.ref qi, .ref qs, .ref qk, .ref qt, .int last, .int used, .int lod, .int uod])), (qi, .inr (1, [.ref ai])), (ai, .inl (cI, N, .inl fi)), (qs, .inr (1, [.ref aS])), (aS, .inl (cI, K, .inl fs)), (qk, .inr (1, [.ref ak])), (ak, .inl (cI, 6, .inl fk)), (qt, .inr (1, [.ref aT])), (aT, .inl (cI, 8, .inl ft))] := k_Dw hD0 rfl
  have hS : va_S (mA [o, qd, ad, qe, ae, qo, ao, r, qi, ai, qs, aS, qk, ak, qt, aT]) s.heap s.heap [] := va_S.rf
  have hl := lv_entry ([.ref o, .int b]) (n := 2) (Nat.le_of_ble_eq_true rfl)
  rw [lg_entry_eq]
  generalize (lg_sl ([.ref o, .int b]) ++ List.replicate (2 - (lg_sl ([.ref o, .int b])).length) Slot.unset).toArray = ls at hl ⊢
  have hl : lv_has ls 2 [(0, .ref o), (1, .int b)] := hl
  refine lv_iload_n hx hb dX2_add_0 rfl (lv_at hl 1 rfl) ?_
  refine lv_if_lt (tgt := 11) hx hb dX2_add_1 (by decide) (fun c1 => ?_) (fun c1 => ?_)
  · exact k_throw (text := "a byte is 0 .. 255") (names := xNIAE) hx hb hst hown (by decide +kernel) (by decide +kernel) xkIAE xiIAE xhIAE xgIAE hT (by decide +kernel) hZ hP hS (hl.1.trans hml.symm) dX2_add_11 dX2_add_14 dX2_add_15 dX2_add_17 dX2_add_20 hno (Nat.le_of_ble_eq_true rfl) (Nat.le_of_ble_eq_true rfl) (Nat.le_of_ble_eq_true rfl) (Nat.le_of_ble_eq_true rfl) hlocks (by simp only [exAdd, if_pos c1]) rfl (Nat.le_of_ble_eq_true rfl) (Nat.le_of_ble_eq_true rfl)
  · refine lv_iload_n hx hb dX2_add_4 rfl (lv_at hl 1 rfl) ?_
    refine lv_sipush (v := 255) hx hb dX2_add_5 (by decide) ?_
    refine lv_icmp_le (tgt := 21) hx hb dX2_add_8 (by decide) (fun c2 => ?_) (fun c2 => ?_)
    · refine lv_aload_n hx hb dX2_add_21 rfl (lv_at hl 0 rfl) ?_
      refine k_afT (wc := [(o, .inr (3, [.int se, .ref qd, .ref qe, .ref qo, .ref r, .int tc, .int fb, .int up, .int bk]))]) (ws' := [(o, .inr (3, [.int se, .ref qd, .ref qe, .ref qo, .ref r, .int tc, .int fb, .int up, .int bk])), (qd, .inr (1, [.ref ad])), (ad, .inl (cI, N, .inl fd)), (qe, .inr (1, [.ref ae])), (ae, .inl (cI, N, .inl fe)), (qo, .inr (1, [.ref ao])), (ao, .inl (cI, 20, .inl fo)), (r, .inr (2, [.ref qi, .ref qs, .ref qk, .ref qt, .int last, .int used, .int lod, .int uod])), (qi, .inr (1, [.ref ai])), (ai, .inl (cI, N, .inl fi)), (qs, .inr (1, [.ref aS])), (aS, .inl (cI, K, .inl fs)), (qk, .inr (1, [.ref ak])), (ak, .inl (cI, 6, .inl fk)), (qt, .inr (1, [.ref aT])), (aT, .inl (cI, 8, .inl ft))]) (vx_runV (rest := []) ⟨hx, hb, hml, hown, hts⟩ (m_X2_refuseWhenDown l dC dI cI cJ o qd qe qo r se tc fb up bk  hst) (cwV 0 hts gX2_add_X2_refuseWhenDown rfl rfl rfl hdv_X2_refuseWhenDown ⟨Nat.le_of_ble_eq_true rfl, Nat.le_of_ble_eq_true rfl⟩) (k_preVT hK hP hD hS hT hZ [0] rfl rfl rfl 0 rfl rfl) rfl rfl hl.1 rfl (lv_room (Nat.le_of_ble_eq_true rfl)) dX2_add_22 ⟨Nat.le_of_ble_eq_true rfl, Nat.le_of_ble_eq_true rfl⟩) hP hD hS [0] rfl rfl rfl rfl (fun E ce q9 H locs x3 hP hS hce hcv hcl => ?_) (fun x3 H locs hP hD hS => ?_)
      · exact k_outT hno hlocks hce hcv hcl hP hS (by simp only [exAdd, if_neg c1, if_pos c2, x3, Option.some_or]) rfl (Nat.le_of_ble_eq_true rfl) (Nat.le_of_ble_eq_true rfl)
      · refine lv_aload_n hx hb dX2_add_25 rfl (lv_at hl 0 rfl) ?_
        refine k_get (ci := 3) (T := TX2) (N := 9) (C := RX2) hx hb hts inX2 hown hK hP 0 rfl rfl 5 (by decide) fl61 rfl rfl dX2_add_26 ?_
        refine lv_bipush (v := 20) hx hb dX2_add_29 (by decide) ?_
        refine lv_icmp_lt (tgt := 44) hx hb dX2_add_31 (by decide) (fun c4 => ?_) (fun c4 => ?_)
        · refine lv_aload_n hx hb dX2_add_44 rfl (lv_at hl 0 rfl) ?_
          refine k_get (ci := 3) (T := TX2) (N := 9) (C := RX2) hx hb hts inX2 hown hK hP 0 rfl rfl 3 (by decide) fl34 rfl rfl dX2_add_45 ?_
          refine lv_aload_n hx hb dX2_add_48 rfl (lv_at hl 0 rfl) ?_
          refine k_get (ci := 3) (T := TX2) (N := 9) (C := RX2) hx hb hts inX2 hown hK hP 0 rfl rfl 5 (by decide) fl61 rfl rfl dX2_add_49 ?_
          refine lv_iload_n hx hb dX2_add_52 rfl (lv_at hl 1 rfl) ?_
          refine k_afW (wc := [(qo, .inr (1, [.ref ao])), (ao, .inl (cI, 20, .inl fo))]) (ws' := [(o, .inr (3, [.int se, .ref qd, .ref qe, .ref qo, .ref r, .int tc, .int fb, .int up, .int bk])), (qd, .inr (1, [.ref ad])), (ad, .inl (cI, N, .inl fd)), (qe, .inr (1, [.ref ae])), (ae, .inl (cI, N, .inl fe)), (qo, .inr (1, [.ref ao])), (ao, .inl (cI, 20, .inl (ca_set 20 fo tc b))), (r, .inr (2, [.ref qi, .ref qs, .ref qk, .ref qt, .int last, .int used, .int lod, .int uod])), (qi, .inr (1, [.ref ai])), (ai, .inl (cI, N, .inl fi)), (qs, .inr (1, [.ref aS])), (aS, .inl (cI, K, .inl fs)), (qk, .inr (1, [.ref ak])), (ak, .inl (cI, 6, .inl fk)), (qt, .inr (1, [.ref aT])), (aT, .inl (cI, 8, .inl ft))]) (va_runV (rest := []) ⟨hx, hb, hml, hown, hts⟩ (m_X0_set l dC dI cI cJ qo ao 20 fo tc b (by first | assumption | decide)) (cwV 2 hts gX2_add_X0_set rfl rfl rfl hdv_X0_set ⟨Nat.le_of_ble_eq_true rfl, Nat.le_of_ble_eq_true rfl⟩) (k_preVW hK hP hD [5, 6] rfl rfl 5 rfl rfl) rfl rfl hl.1 rfl (lv_room (Nat.le_of_ble_eq_true rfl)) dX2_add_53 ⟨Nat.le_of_ble_eq_true rfl, Nat.le_of_ble_eq_true rfl⟩) hP hD hS [5, 6] rfl rfl rfl rfl (fun H locs hP hD hS => ?_)
          refine lv_aload_n hx hb dX2_add_56 rfl (lv_at hl 0 rfl) ?_
          refine lv_dup hx hb dX2_add_57 rfl ?_
          refine k_get (ci := 3) (T := TX2) (N := 9) (C := RX2) hx hb hts inX2 hown hK hP 0 rfl rfl 5 (by decide) fl61 rfl rfl dX2_add_58 ?_
          refine lv_iconst (v := 1) hx hb dX2_add_61 (by decide) ?_
          refine lv_iadd hx hb dX2_add_62 ?_
          refine k_putf (ws' := [(o, .inr (3, [.int se, .ref qd, .ref qe, .ref qo, .ref r, .int (tc + 1), .int fb, .int up, .int bk])), (qd, .inr (1, [.ref ad])), (ad, .inl (cI, N, .inl fd)), (qe, .inr (1, [.ref ae])), (ae, .inl (cI, N, .inl fe)), (qo, .inr (1, [.ref ao])), (ao, .inl (cI, 20, .inl (ca_set 20 fo tc b))), (r, .inr (2, [.ref qi, .ref qs, .ref qk, .ref qt, .int last, .int used, .int lod, .int uod])), (qi, .inr (1, [.ref ai])), (ai, .inl (cI, N, .inl fi)), (qs, .inr (1, [.ref aS])), (aS, .inl (cI, K, .inl fs)), (qk, .inr (1, [.ref ak])), (ak, .inl (cI, 6, .inl fk)), (qt, .inr (1, [.ref aT])), (aT, .inl (cI, 8, .inl ft))]) (ci := 3) (T := TX2) (N := 9) (C := RX2) (ty := .int) hx hb hts inX2 tyX2 tyX2_ok nmX2 hown hK hP hD hS 0 rfl rfl 5 (by decide) fl61 rfl rfl rfl rfl rfl (Nat.le_of_ble_eq_true rfl) dX2_add_63 rfl (fun H locs hP hD hS => ?_)
          refine lv_aload_n hx hb dX2_add_66 rfl (lv_at hl 0 rfl) ?_
          refine k_get (ci := 3) (T := TX2) (N := 9) (C := RX2) hx hb hts inX2 hown hK hP 0 rfl rfl 5 (by decide) fl61 rfl rfl dX2_add_67 ?_
          exact k_iretT hx hb hr hlocks hP hS (by simp only [exAdd, if_neg c1, if_pos c2, x3, Option.none_or, if_pos c4]) rfl rfl (Nat.le_of_ble_eq_true rfl) (Nat.le_of_ble_eq_true rfl) dX2_add_70
        · exact k_throw (text := "a row has at most twenty bytes") (names := xNUOE) hx hb hst hown (by decide +kernel) (by decide +kernel) xkUOE xiUOE xhUOE xgUOE hT (by decide +kernel) hZ hP hS (hl.1.trans hml.symm) dX2_add_34 dX2_add_37 dX2_add_38 dX2_add_40 dX2_add_43 hno (Nat.le_of_ble_eq_true rfl) (Nat.le_of_ble_eq_true rfl) (Nat.le_of_ble_eq_true rfl) (Nat.le_of_ble_eq_true rfl) hlocks (by simp only [exAdd, if_neg c1, if_pos c2, x3, Option.none_or, if_neg c4]) rfl (Nat.le_of_ble_eq_true rfl) (Nat.le_of_ble_eq_true rfl)
    · exact k_throw (text := "a byte is 0 .. 255") (names := xNIAE) hx hb hst hown (by decide +kernel) (by decide +kernel) xkIAE xiIAE xhIAE xgIAE hT (by decide +kernel) hZ hP hS (hl.1.trans hml.symm) dX2_add_11 dX2_add_14 dX2_add_15 dX2_add_17 dX2_add_20 hno (Nat.le_of_ble_eq_true rfl) (Nat.le_of_ble_eq_true rfl) (Nat.le_of_ble_eq_true rfl) (Nat.le_of_ble_eq_true rfl) hlocks (by simp only [exAdd, if_neg c1, if_neg c2]) rfl (Nat.le_of_ble_eq_true rfl) (Nat.le_of_ble_eq_true rfl)
set_option maxHeartbeats 4000000 in
set_option maxRecDepth 100000 in
theorem m_X2_end (l : Launch) (dC : Nat → ClassId) (dI : Nat → Nat → Nat) (cI cJ : ClassId) (o : Nat) (qd : Nat) (ad : Nat) (qe : Nat) (ae : Nat) (qo : Nat) (ao : Nat) (r : Nat) (qi : Nat) (ai : Nat) (qs : Nat) (aS : Nat) (qk : Nat) (ak : Nat) (qt : Nat) (aT : Nat) (N : Nat) (K : Nat) (fd : Nat → Int32) (fe : Nat → Int32) (fo : Nat → Int32) (fi : Nat → Int32) (fs : Nat → Int32) (fk : Nat → Int32) (ft : Nat → Int32) (se : Int32) (tc : Int32) (fb : Int32) (up : Int32) (bk : Int32) (last : Int32) (used : Int32) (lod : Int32) (uod : Int32) (kind : Int32) (hN : N < 2 ^ 31) (hK9 : K < 2 ^ 31) (hst : l.stackTraces = false) : cT l yX2_end wsX2_end ({ frames := 7, cells := 3, slots := 18, locals := 103 }) dC dI cI cJ [(o, .inr (3, [.int se, .ref qd, .ref qe, .ref qo, .ref r, .int tc, .int fb, .int up, .int bk])), (qd, .inr (1, [.ref ad])), (ad, .inl (cI, N, .inl fd)), (qe, .inr (1, [.ref ae])), (ae, .inl (cI, N, .inl fe)), (qo, .inr (1, [.ref ao])), (ao, .inl (cI, 20, .inl fo)), (r, .inr (2, [.ref qi, .ref qs, .ref qk, .ref qt, .int last, .int used, .int lod, .int uod])), (qi, .inr (1, [.ref ai])), (ai, .inl (cI, N, .inl fi)), (qs, .inr (1, [.ref aS])), (aS, .inl (cI, K, .inl fs)), (qk, .inr (1, [.ref ak])), (ak, .inl (cI, 6, .inl fk)), (qt, .inr (1, [.ref aT])), (aT, .inl (cI, 8, .inl ft))] [(o, .inr (3, [.int se, .ref qd, .ref qe, .ref qo, .ref r, .int 0, .int fb, .int up, .int bk])), (qd, .inr (1, [.ref ad])), (ad, .inl (cI, N, .inl fd)), (qe, .inr (1, [.ref ae])), (ae, .inl (cI, N, .inl fe)), (qo, .inr (1, [.ref ao])), (ao, .inl (cI, 20, .inl fo)), (r, .inr (2, [.ref qi, .ref qs, .ref qk, .ref qt, .int (last + 1), .int (rw_enU N K (rw_image N fi used last kind tc 20 fo) fs last used), .int lod, .int uod])), (qi, .inr (1, [.ref ai])), (ai, .inl (cI, N, .inl (rw_image N fi used last kind tc 20 fo))), (qs, .inr (1, [.ref aS])), (aS, .inl (cI, K, .inl (rw_enS K fs last used))), (qk, .inr (1, [.ref ak])), (ak, .inl (cI, 6, .inl (rw_enK N K (rw_image N fi used last kind tc 20 fo) fs fk last used))), (qt, .inr (1, [.ref aT])), (aT, .inl (cI, 8, .inl ft))] [o, qd, ad, qe, ae, qo, ao, r, qi, ai, qs, aS, qk, ak, qt, aT] [.ref o, .int kind] (exEnd N up used tc kind) (some (.int (last + 1))) 3 18 := by
  refine vx_ofW (cc := cX2_end) (maxL := 3) (ret := (some .int)) (by decide) rfl ?_
  intro p e s m args below meth c s₁ B hml hno hv
  obtain ⟨rfl, hP, hK, hD0, hT, hZ⟩ := hv
  have hx := B.exec
  have hb := B.bytes
  have hr := B.returns
  have hts := atoms_spec (ws := wsX2_end) B.pre
  have hown : s.vm.findClass RX2 = some m.cls := findClass_of_methodNamed B.named
  have hlocks := B.notSynchronized
  have inX2 : ∀ w ∈ wsX20, w ∈ wsX2_end := fun w h => (List.mem_cons_of_mem _ (List.mem_append_left _ (List.mem_append_left _ (List.mem_append_left _ (List.mem_append_left _ (List.mem_append_left _ (List.mem_append_right _ h)))))))
  have xkIAE := hts (.classLink RX2 51 xIAE) (by decide +kernel)
  have xiIAE := hts (.initialized xIAE) (by decide +kernel)
  have xhIAE := vx_hat (fun w h => hts w (List.mem_cons_of_mem _ (List.mem_append_left _ (List.mem_append_left _ (List.mem_append_right _ h))))) xbIAE (fun w h => va_Nw.use (gXW_on w h) (hT.1 w h))
  have fl34 := hts (.fieldLink RX2 34 "StockLog" "told" "LStockLog$Cells;") (by decide +kernel)
  have fl40 := hts (.fieldLink RX2 40 "StockLog" "rows" "LStockLog$Rows;") (by decide +kernel)
  have fl61 := hts (.fieldLink RX2 61 "StockLog" "toldCount" "I") (by decide +kernel)
  have hD : va_D (mA [o, qd, ad, qe, ae, qo, ao, r, qi, ai, qs, aS, qk, ak, qt, aT]) [(o, .inr (3, [.int se, .ref qd, .ref qe, .ref qo, .ref r, .int tc, .int fb, .int up, .int bk])), (qd, .inr (1, [.ref ad])), (ad, .inl (cI, N, .inl fd)), (qe, .inr (1, [.ref ae])), (ae, .inl (cI, N, .inl fe)), (qo, .inr (1, [.ref ao])), (ao, .inl (cI, 20, .inl fo)), (r, .inr (2, [.ref qi, .ref qs, .ref qk, .ref qt, .int last, .int used, .int lod, .int uod])), (qi, .inr (1, [.ref ai])), (ai, .inl (cI, N, .inl fi)), (qs, .inr (1, [.ref aS])), (aS, .inl (cI, K, .inl fs)), (qk, .inr (1, [.ref ak])), (ak, .inl (cI, 6, .inl fk)), (qt, .inr (1, [.ref aT])), (aT, .inl (cI, 8, .inl ft))] := k_Dw hD0 rfl
  have hS : va_S (mA [o, qd, ad, qe, ae, qo, ao, r, qi, ai, qs, aS, qk, ak, qt, aT]) s.heap s.heap [] := va_S.rf
  have hl := lv_entry ([.ref o, .int kind]) (n := 3) (Nat.le_of_ble_eq_true rfl)
  rw [lg_entry_eq]
  generalize (lg_sl ([.ref o, .int kind]) ++ List.replicate (3 - (lg_sl ([.ref o, .int kind])).length) Slot.unset).toArray = ls at hl ⊢
  have hl : lv_has ls 3 [(0, .ref o), (1, .int kind)] := hl
  refine lv_iload_n hx hb dX2_end_0 rfl (lv_at hl 1 rfl) ?_
  refine lv_iconst (v := 5) hx hb dX2_end_1 (by decide) ?_
  refine lv_icmp_ne (tgt := 15) hx hb dX2_end_2 (by decide) (fun c1 => ?_) (fun c1 => ?_)
  · refine lv_aload_n hx hb dX2_end_15 rfl (lv_at hl 0 rfl) ?_
    refine lv_iload_n hx hb dX2_end_16 rfl (lv_at hl 1 rfl) ?_
    refine k_afT (wc := [(o, .inr (3, [.int se, .ref qd, .ref qe, .ref qo, .ref r, .int tc, .int fb, .int up, .int bk]))]) (ws' := [(o, .inr (3, [.int se, .ref qd, .ref qe, .ref qo, .ref r, .int tc, .int fb, .int up, .int bk])), (qd, .inr (1, [.ref ad])), (ad, .inl (cI, N, .inl fd)), (qe, .inr (1, [.ref ae])), (ae, .inl (cI, N, .inl fe)), (qo, .inr (1, [.ref ao])), (ao, .inl (cI, 20, .inl fo)), (r, .inr (2, [.ref qi, .ref qs, .ref qk, .ref qt, .int last, .int used, .int lod, .int uod])), (qi, .inr (1, [.ref ai])), (ai, .inl (cI, N, .inl fi)), (qs, .inr (1, [.ref aS])), (aS, .inl (cI, K, .inl fs)), (qk, .inr (1, [.ref ak])), (ak, .inl (cI, 6, .inl fk)), (qt, .inr (1, [.ref aT])), (aT, .inl (cI, 8, .inl ft))]) (vx_runV (rest := []) ⟨hx, hb, hml, hown, hts⟩ (m_X2_refuseOtherKind l dC dI cI cJ o qd qe qo r se tc fb up bk kind  hst) (cwV 1 hts gX2_end_X2_refuseOtherKind rfl rfl rfl hdv_X2_refuseOtherKind ⟨Nat.le_of_ble_eq_true rfl, Nat.le_of_ble_eq_true rfl⟩) (k_preVT hK hP hD hS hT hZ [0] rfl rfl rfl 0 rfl rfl) rfl rfl hl.1 rfl (lv_room (Nat.le_of_ble_eq_true rfl)) dX2_end_17 ⟨Nat.le_of_ble_eq_true rfl, Nat.le_of_ble_eq_true rfl⟩) hP hD hS [0] rfl rfl rfl rfl (fun E ce q9 H locs x2 hP hS hce hcv hcl => ?_) (fun x2 H locs hP hD hS => ?_)
    · exact k_outT hno hlocks hce hcv hcl hP hS (by simp only [exEnd, if_neg c1, x2, Option.some_or]) rfl (Nat.le_of_ble_eq_true rfl) (Nat.le_of_ble_eq_true rfl)
    · refine lv_aload_n hx hb dX2_end_20 rfl (lv_at hl 0 rfl) ?_
      refine k_afT (wc := [(o, .inr (3, [.int se, .ref qd, .ref qe, .ref qo, .ref r, .int tc, .int fb, .int up, .int bk]))]) (ws' := [(o, .inr (3, [.int se, .ref qd, .ref qe, .ref qo, .ref r, .int tc, .int fb, .int up, .int bk])), (qd, .inr (1, [.ref ad])), (ad, .inl (cI, N, .inl fd)), (qe, .inr (1, [.ref ae])), (ae, .inl (cI, N, .inl fe)), (qo, .inr (1, [.ref ao])), (ao, .inl (cI, 20, .inl fo)), (r, .inr (2, [.ref qi, .ref qs, .ref qk, .ref qt, .int last, .int used, .int lod, .int uod])), (qi, .inr (1, [.ref ai])), (ai, .inl (cI, N, .inl fi)), (qs, .inr (1, [.ref aS])), (aS, .inl (cI, K, .inl fs)), (qk, .inr (1, [.ref ak])), (ak, .inl (cI, 6, .inl fk)), (qt, .inr (1, [.ref aT])), (aT, .inl (cI, 8, .inl ft))]) (vx_runV (rest := []) ⟨hx, hb, hml, hown, hts⟩ (m_X2_refuseWhenDown l dC dI cI cJ o qd qe qo r se tc fb up bk  hst) (cwV 0 hts gX2_end_X2_refuseWhenDown rfl rfl rfl hdv_X2_refuseWhenDown ⟨Nat.le_of_ble_eq_true rfl, Nat.le_of_ble_eq_true rfl⟩) (k_preVT hK hP hD hS hT hZ [0] rfl rfl rfl 0 rfl rfl) rfl rfl hl.1 rfl (lv_room (Nat.le_of_ble_eq_true rfl)) dX2_end_21 ⟨Nat.le_of_ble_eq_true rfl, Nat.le_of_ble_eq_true rfl⟩) hP hD hS [0] rfl rfl rfl rfl (fun E ce q9 H locs x3 hP hS hce hcv hcl => ?_) (fun x3 H locs hP hD hS => ?_)
      · exact k_outT hno hlocks hce hcv hcl hP hS (by simp only [exEnd, if_neg c1, x2, Option.none_or, x3, Option.some_or]) rfl (Nat.le_of_ble_eq_true rfl) (Nat.le_of_ble_eq_true rfl)
      · refine lv_aload_n hx hb dX2_end_24 rfl (lv_at hl 0 rfl) ?_
        refine lv_aload_n hx hb dX2_end_25 rfl (lv_at hl 0 rfl) ?_
        refine k_get (ci := 3) (T := TX2) (N := 9) (C := RX2) hx hb hts inX2 hown hK hP 0 rfl rfl 5 (by decide) fl61 rfl rfl dX2_end_26 ?_
        refine k_afT (wc := [(o, .inr (3, [.int se, .ref qd, .ref qe, .ref qo, .ref r, .int tc, .int fb, .int up, .int bk])), (qd, .inr (1, [.ref ad])), (ad, .inl (cI, N, .inl fd)), (r, .inr (2, [.ref qi, .ref qs, .ref qk, .ref qt, .int last, .int used, .int lod, .int uod]))]) (ws' := [(o, .inr (3, [.int se, .ref qd, .ref qe, .ref qo, .ref r, .int tc, .int fb, .int up, .int bk])), (qd, .inr (1, [.ref ad])), (ad, .inl (cI, N, .inl fd)), (qe, .inr (1, [.ref ae])), (ae, .inl (cI, N, .inl fe)), (qo, .inr (1, [.ref ao])), (ao, .inl (cI, 20, .inl fo)), (r, .inr (2, [.ref qi, .ref qs, .ref qk, .ref qt, .int last, .int used, .int lod, .int uod])), (qi, .inr (1, [.ref ai])), (ai, .inl (cI, N, .inl fi)), (qs, .inr (1, [.ref aS])), (aS, .inl (cI, K, .inl fs)), (qk, .inr (1, [.ref ak])), (ak, .inl (cI, 6, .inl fk)), (qt, .inr (1, [.ref aT])), (aT, .inl (cI, 8, .inl ft))]) (vx_runV (rest := []) ⟨hx, hb, hml, hown, hts⟩ (m_X2_refuseWhenFull l dC dI cI cJ o qd ad qe qo r qi qs qk qt N fd se tc fb up bk last used lod uod tc  hst) (cwV 1 hts gX2_end_X2_refuseWhenFull rfl rfl rfl hdv_X2_refuseWhenFull ⟨Nat.le_of_ble_eq_true rfl, Nat.le_of_ble_eq_true rfl⟩) (k_preVT hK hP hD hS hT hZ [0, 1, 2, 7] rfl rfl rfl 0 rfl rfl) rfl rfl hl.1 rfl (lv_room (Nat.le_of_ble_eq_true rfl)) dX2_end_29 ⟨Nat.le_of_ble_eq_true rfl, Nat.le_of_ble_eq_true rfl⟩) hP hD hS [0, 1, 2, 7] rfl rfl rfl rfl (fun E ce q9 H locs x4 hP hS hce hcv hcl => ?_) (fun x4 H locs hP hD hS => ?_)
        · exact k_outT hno hlocks hce hcv hcl hP hS (by simp only [exEnd, if_neg c1, x2, Option.none_or, x3, Option.none_or, x4, Option.some_or]) rfl (Nat.le_of_ble_eq_true rfl) (Nat.le_of_ble_eq_true rfl)
        · refine lv_aload_n hx hb dX2_end_32 rfl (lv_at hl 0 rfl) ?_
          refine k_get (ci := 3) (T := TX2) (N := 9) (C := RX2) hx hb hts inX2 hown hK hP 0 rfl rfl 4 (by decide) fl40 rfl rfl dX2_end_33 ?_
          refine lv_iload_n hx hb dX2_end_36 rfl (lv_at hl 1 rfl) ?_
          refine lv_aload_n hx hb dX2_end_37 rfl (lv_at hl 0 rfl) ?_
          refine k_get (ci := 3) (T := TX2) (N := 9) (C := RX2) hx hb hts inX2 hown hK hP 0 rfl rfl 3 (by decide) fl34 rfl rfl dX2_end_38 ?_
          refine lv_aload_n hx hb dX2_end_41 rfl (lv_at hl 0 rfl) ?_
          refine k_get (ci := 3) (T := TX2) (N := 9) (C := RX2) hx hb hts inX2 hown hK hP 0 rfl rfl 5 (by decide) fl61 rfl rfl dX2_end_42 ?_
          refine k_afW (wc := [(r, .inr (2, [.ref qi, .ref qs, .ref qk, .ref qt, .int last, .int used, .int lod, .int uod])), (qi, .inr (1, [.ref ai])), (ai, .inl (cI, N, .inl fi)), (qs, .inr (1, [.ref aS])), (aS, .inl (cI, K, .inl fs)), (qk, .inr (1, [.ref ak])), (ak, .inl (cI, 6, .inl fk)), (qt, .inr (1, [.ref aT])), (aT, .inl (cI, 8, .inl ft)), (qo, .inr (1, [.ref ao])), (ao, .inl (cI, 20, .inl fo))]) (ws' := [(o, .inr (3, [.int se, .ref qd, .ref qe, .ref qo, .ref r, .int tc, .int fb, .int up, .int bk])), (qd, .inr (1, [.ref ad])), (ad, .inl (cI, N, .inl fd)), (qe, .inr (1, [.ref ae])), (ae, .inl (cI, N, .inl fe)), (qo, .inr (1, [.ref ao])), (ao, .inl (cI, 20, .inl fo)), (r, .inr (2, [.ref qi, .ref qs, .ref qk, .ref qt, .int (last + 1), .int (rw_enU N K (rw_image N fi used last kind tc 20 fo) fs last used), .int lod, .int uod])), (qi, .inr (1, [.ref ai])), (ai, .inl (cI, N, .inl (rw_image N fi used last kind tc 20 fo))), (qs, .inr (1, [.ref aS])), (aS, .inl (cI, K, .inl (rw_enS K fs last used))), (qk, .inr (1, [.ref ak])), (ak, .inl (cI, 6, .inl (rw_enK N K (rw_image N fi used last kind tc 20 fo) fs fk last used))), (qt, .inr (1, [.ref aT])), (aT, .inl (cI, 8, .inl ft))]) (va_runV (rest := []) ⟨hx, hb, hml, hown, hts⟩ (m_X1_write l dC dI cI cJ r qi ai qs aS qk ak qt aT N K fi fs fk ft last used lod uod qo ao 20 fo kind tc (by first | assumption | decide) (by first | assumption | decide) (by first | assumption | decide)) (cwV 3 hts gX2_end_X1_write rfl rfl rfl hdv_X1_write ⟨Nat.le_of_ble_eq_true rfl, Nat.le_of_ble_eq_true rfl⟩) (k_preVW hK hP hD [7, 8, 9, 10, 11, 12, 13, 14, 15, 5, 6] rfl rfl 7 rfl rfl) rfl rfl hl.1 rfl (lv_room (Nat.le_of_ble_eq_true rfl)) dX2_end_45 ⟨Nat.le_of_ble_eq_true rfl, Nat.le_of_ble_eq_true rfl⟩) hP hD hS [7, 8, 9, 10, 11, 12, 13, 14, 15, 5, 6] rfl rfl rfl rfl (fun H locs hP hD hS => ?_)
          refine lv_istore_n (lv' := [(2, .int (last + 1)), (0, .ref o), (1, .int kind)]) hx hb dX2_end_48 rfl hl (by decide) rfl (fun ls hl => ?_)
          refine lv_aload_n hx hb dX2_end_49 rfl (lv_at hl 1 rfl) ?_
          refine lv_iconst (v := 0) hx hb dX2_end_50 (by decide) ?_
          refine k_putf (ws' := [(o, .inr (3, [.int se, .ref qd, .ref qe, .ref qo, .ref r, .int 0, .int fb, .int up, .int bk])), (qd, .inr (1, [.ref ad])), (ad, .inl (cI, N, .inl fd)), (qe, .inr (1, [.ref ae])), (ae, .inl (cI, N, .inl fe)), (qo, .inr (1, [.ref ao])), (ao, .inl (cI, 20, .inl fo)), (r, .inr (2, [.ref qi, .ref qs, .ref qk, .ref qt, .int (last + 1), .int (rw_enU N K (rw_image N fi used last kind tc 20 fo) fs last used), .int lod, .int uod])), (qi, .inr (1, [.ref ai])), (ai, .inl (cI, N, .inl (rw_image N fi used last kind tc 20 fo))), (qs, .inr (1, [.ref aS])), (aS, .inl (cI, K, .inl (rw_enS K fs last used))), (qk, .inr (1, [.ref ak])), (ak, .inl (cI, 6, .inl (rw_enK N K (rw_image N fi used last kind tc 20 fo) fs fk last used))), (qt, .inr (1, [.ref aT])), (aT, .inl (cI, 8, .inl ft))]) (ci := 3) (T := TX2) (N := 9) (C := RX2) (ty := .int) hx hb hts inX2 tyX2 tyX2_ok nmX2 hown hK hP hD hS 0 rfl rfl 5 (by decide) fl61 rfl rfl rfl rfl rfl (Nat.le_of_ble_eq_true rfl) dX2_end_51 rfl (fun H locs hP hD hS => ?_)
          refine lv_iload_n hx hb dX2_end_54 rfl (lv_at hl 0 rfl) ?_
          exact k_iretT hx hb hr hlocks hP hS (by simp only [exEnd, if_neg c1, x2, Option.none_or, x3, Option.none_or, x4, Option.none_or]) rfl rfl (Nat.le_of_ble_eq_true rfl) (Nat.le_of_ble_eq_true rfl) dX2_end_55
  · exact k_throw (text := "a whole state is not told byte by byte") (names := xNIAE) hx hb hst hown (by decide +kernel) (by decide +kernel) xkIAE xiIAE xhIAE xgIAE hT (by decide +kernel) hZ hP hS (hl.1.trans hml.symm) dX2_end_5 dX2_end_8 dX2_end_9 dX2_end_11 dX2_end_14 hno (Nat.le_of_ble_eq_true rfl) (Nat.le_of_ble_eq_true rfl) (Nat.le_of_ble_eq_true rfl) (Nat.le_of_ble_eq_true rfl) hlocks (by simp only [exEnd, if_pos c1]) rfl (Nat.le_of_ble_eq_true rfl) (Nat.le_of_ble_eq_true rfl)
set_option maxHeartbeats 4000000 in
set_option maxRecDepth 100000 in
theorem m_X2_whole (l : Launch) (dC : Nat → ClassId) (dI : Nat → Nat → Nat) (cI cJ : ClassId) (o : Nat) (qd : Nat) (ad : Nat) (qe : Nat) (ae : Nat) (qo : Nat) (ao : Nat) (r : Nat) (qi : Nat) (ai : Nat) (qs : Nat) (aS : Nat) (qk : Nat) (ak : Nat) (qt : Nat) (aT : Nat) (N : Nat) (K : Nat) (fd : Nat → Int32) (fe : Nat → Int32) (fo : Nat → Int32) (fi : Nat → Int32) (fs : Nat → Int32) (fk : Nat → Int32) (ft : Nat → Int32) (se : Int32) (tc : Int32) (fb : Int32) (up : Int32) (bk : Int32) (last : Int32) (used : Int32) (lod : Int32) (uod : Int32) (hN : N < 2 ^ 31) (hK9 : K < 2 ^ 31) (hst : l.stackTraces = false) : cT l yX2_whole wsX2_whole ({ frames := 7, cells := 2, slots := 12, locals := 107 }) dC dI cI cJ [(o, .inr (3, [.int se, .ref qd, .ref qe, .ref qo, .ref r, .int tc, .int fb, .int up, .int bk])), (qd, .inr (1, [.ref ad])), (ad, .inl (cI, N, .inl fd)), (qe, .inr (1, [.ref ae])), (ae, .inl (cI, N, .inl fe)), (qo, .inr (1, [.ref ao])), (ao, .inl (cI, 20, .inl fo)), (r, .inr (2, [.ref qi, .ref qs, .ref qk, .ref qt, .int last, .int used, .int lod, .int uod])), (qi, .inr (1, [.ref ai])), (ai, .inl (cI, N, .inl fi)), (qs, .inr (1, [.ref aS])), (aS, .inl (cI, K, .inl fs)), (qk, .inr (1, [.ref ak])), (ak, .inl (cI, 6, .inl fk)), (qt, .inr (1, [.ref aT])), (aT, .inl (cI, 8, .inl ft))] [(o, .inr (3, [.int se, .ref qd, .ref qe, .ref qo, .ref r, .int tc, .int fb, .int up, .int bk])), (qd, .inr (1, [.ref ad])), (ad, .inl (cI, N, .inl fd)), (qe, .inr (1, [.ref ae])), (ae, .inl (cI, N, .inl fe)), (qo, .inr (1, [.ref ao])), (ao, .inl (cI, 20, .inl fo)), (r, .inr (2, [.ref qi, .ref qs, .ref qk, .ref qt, .int (last + 1), .int (rw_enU N K (rw_image N fi used last 5 8 8 (rw_fill ft fk)) fs last used), .int lod, .int uod])), (qi, .inr (1, [.ref ai])), (ai, .inl (cI, N, .inl (rw_image N fi used last 5 8 8 (rw_fill ft fk)))), (qs, .inr (1, [.ref aS])), (aS, .inl (cI, K, .inl (rw_enS K fs last used))), (qk, .inr (1, [.ref ak])), (ak, .inl (cI, 6, .inl (rw_enK N K (rw_image N fi used last 5 8 8 (rw_fill ft fk)) fs fk last used))), (qt, .inr (1, [.ref aT])), (aT, .inl (cI, 8, .inl (rw_fill ft fk)))] [o, qd, ad, qe, ae, qo, ao, r, qi, ai, qs, aS, qk, ak, qt, aT] [.ref o] (exWhole N up used) (some (.int (last + 1))) 2 12 := by
  refine vx_ofW (cc := cX2_whole) (maxL := 1) (ret := (some .int)) (by decide) rfl ?_
  intro p e s m args below meth c s₁ B hml hno hv
  obtain ⟨rfl, hP, hK, hD0, hT, hZ⟩ := hv
  have hx := B.exec
  have hb := B.bytes
  have hr := B.returns
  have hts := atoms_spec (ws := wsX2_whole) B.pre
  have hown : s.vm.findClass RX2 = some m.cls := findClass_of_methodNamed B.named
  have hlocks := B.notSynchronized
  have inX2 : ∀ w ∈ wsX20, w ∈ wsX2_whole := fun w h => (List.mem_cons_of_mem _ (List.mem_append_left _ (List.mem_append_left _ (List.mem_append_left _ (List.mem_append_left _ (List.mem_append_right _ h))))))
  have fl40 := hts (.fieldLink RX2 40 "StockLog" "rows" "LStockLog$Rows;") (by decide +kernel)
  have hD : va_D (mA [o, qd, ad, qe, ae, qo, ao, r, qi, ai, qs, aS, qk, ak, qt, aT]) [(o, .inr (3, [.int se, .ref qd, .ref qe, .ref qo, .ref r, .int tc, .int fb, .int up, .int bk])), (qd, .inr (1, [.ref ad])), (ad, .inl (cI, N, .inl fd)), (qe, .inr (1, [.ref ae])), (ae, .inl (cI, N, .inl fe)), (qo, .inr (1, [.ref ao])), (ao, .inl (cI, 20, .inl fo)), (r, .inr (2, [.ref qi, .ref qs, .ref qk, .ref qt, .int last, .int used, .int lod, .int uod])), (qi, .inr (1, [.ref ai])), (ai, .inl (cI, N, .inl fi)), (qs, .inr (1, [.ref aS])), (aS, .inl (cI, K, .inl fs)), (qk, .inr (1, [.ref ak])), (ak, .inl (cI, 6, .inl fk)), (qt, .inr (1, [.ref aT])), (aT, .inl (cI, 8, .inl ft))] := k_Dw hD0 rfl
  have hS : va_S (mA [o, qd, ad, qe, ae, qo, ao, r, qi, ai, qs, aS, qk, ak, qt, aT]) s.heap s.heap [] := va_S.rf
  have hl := lv_entry ([.ref o]) (n := 1) (Nat.le_of_ble_eq_true rfl)
  rw [lg_entry_eq]
  generalize (lg_sl ([.ref o]) ++ List.replicate (1 - (lg_sl ([.ref o])).length) Slot.unset).toArray = ls at hl ⊢
  have hl : lv_has ls 1 [(0, .ref o)] := hl
  refine lv_aload_n hx hb dX2_whole_0 rfl (lv_at hl 0 rfl) ?_
  refine k_afT (wc := [(o, .inr (3, [.int se, .ref qd, .ref qe, .ref qo, .ref r, .int tc, .int fb, .int up, .int bk]))]) (ws' := [(o, .inr (3, [.int se, .ref qd, .ref qe, .ref qo, .ref r, .int tc, .int fb, .int up, .int bk])), (qd, .inr (1, [.ref ad])), (ad, .inl (cI, N, .inl fd)), (qe, .inr (1, [.ref ae])), (ae, .inl (cI, N, .inl fe)), (qo, .inr (1, [.ref ao])), (ao, .inl (cI, 20, .inl fo)), (r, .inr (2, [.ref qi, .ref qs, .ref qk, .ref qt, .int last, .int used, .int lod, .int uod])), (qi, .inr (1, [.ref ai])), (ai, .inl (cI, N, .inl fi)), (qs, .inr (1, [.ref aS])), (aS, .inl (cI, K, .inl fs)), (qk, .inr (1, [.ref ak])), (ak, .inl (cI, 6, .inl fk)), (qt, .inr (1, [.ref aT])), (aT, .inl (cI, 8, .inl ft))]) (vx_runV (rest := []) ⟨hx, hb, hml, hown, hts⟩ (m_X2_refuseWhenDown l dC dI cI cJ o qd qe qo r se tc fb up bk  hst) (cwV 0 hts gX2_whole_X2_refuseWhenDown rfl rfl rfl hdv_X2_refuseWhenDown ⟨Nat.le_of_ble_eq_true rfl, Nat.le_of_ble_eq_true rfl⟩) (k_preVT hK hP hD hS hT hZ [0] rfl rfl rfl 0 rfl rfl) rfl rfl hl.1 rfl (lv_room (Nat.le_of_ble_eq_true rfl)) dX2_whole_1 ⟨Nat.le_of_ble_eq_true rfl, Nat.le_of_ble_eq_true rfl⟩) hP hD hS [0] rfl rfl rfl rfl (fun E ce q9 H locs x1 hP hS hce hcv hcl => ?_) (fun x1 H locs hP hD hS => ?_)
  · exact k_outT hno hlocks hce hcv hcl hP hS (by simp only [exWhole, x1, Option.some_or]) rfl (Nat.le_of_ble_eq_true rfl) (Nat.le_of_ble_eq_true rfl)
  · refine lv_aload_n hx hb dX2_whole_4 rfl (lv_at hl 0 rfl) ?_
    refine lv_bipush (v := 8) hx hb dX2_whole_5 (by decide) ?_
    refine k_afT (wc := [(o, .inr (3, [.int se, .ref qd, .ref qe, .ref qo, .ref r, .int tc, .int fb, .int up, .int bk])), (qd, .inr (1, [.ref ad])), (ad, .inl (cI, N, .inl fd)), (r, .inr (2, [.ref qi, .ref qs, .ref qk, .ref qt, .int last, .int used, .int lod, .int uod]))]) (ws' := [(o, .inr (3, [.int se, .ref qd, .ref qe, .ref qo, .ref r, .int tc, .int fb, .int up, .int bk])), (qd, .inr (1, [.ref ad])), (ad, .inl (cI, N, .inl fd)), (qe, .inr (1, [.ref ae])), (ae, .inl (cI, N, .inl fe)), (qo, .inr (1, [.ref ao])), (ao, .inl (cI, 20, .inl fo)), (r, .inr (2, [.ref qi, .ref qs, .ref qk, .ref qt, .int last, .int used, .int lod, .int uod])), (qi, .inr (1, [.ref ai])), (ai, .inl (cI, N, .inl fi)), (qs, .inr (1, [.ref aS])), (aS, .inl (cI, K, .inl fs)), (qk, .inr (1, [.ref ak])), (ak, .inl (cI, 6, .inl fk)), (qt, .inr (1, [.ref aT])), (aT, .inl (cI, 8, .inl ft))]) (vx_runV (rest := []) ⟨hx, hb, hml, hown, hts⟩ (m_X2_refuseWhenFull l dC dI cI cJ o qd ad qe qo r qi qs qk qt N fd se tc fb up bk last used lod uod 8  hst) (cwV 1 hts gX2_whole_X2_refuseWhenFull rfl rfl rfl hdv_X2_refuseWhenFull ⟨Nat.le_of_ble_eq_true rfl, Nat.le_of_ble_eq_true rfl⟩) (k_preVT hK hP hD hS hT hZ [0, 1, 2, 7] rfl rfl rfl 0 rfl rfl) rfl rfl hl.1 rfl (lv_room (Nat.le_of_ble_eq_true rfl)) dX2_whole_7 ⟨Nat.le_of_ble_eq_true rfl, Nat.le_of_ble_eq_true rfl⟩) hP hD hS [0, 1, 2, 7] rfl rfl rfl rfl (fun E ce q9 H locs x2 hP hS hce hcv hcl => ?_) (fun x2 H locs hP hD hS => ?_)
    · exact k_outT hno hlocks hce hcv hcl hP hS (by simp only [exWhole, x1, Option.none_or, x2, Option.some_or]) rfl (Nat.le_of_ble_eq_true rfl) (Nat.le_of_ble_eq_true rfl)
    · refine lv_aload_n hx hb dX2_whole_10 rfl (lv_at hl 0 rfl) ?_
      refine k_get (ci := 3) (T := TX2) (N := 9) (C := RX2) hx hb hts inX2 hown hK hP 0 rfl rfl 4 (by decide) fl40 rfl rfl dX2_whole_11 ?_
      refine k_afW (wc := [(r, .inr (2, [.ref qi, .ref qs, .ref qk, .ref qt, .int last, .int used, .int lod, .int uod])), (qi, .inr (1, [.ref ai])), (ai, .inl (cI, N, .inl fi)), (qs, .inr (1, [.ref aS])), (aS, .inl (cI, K, .inl fs)), (qk, .inr (1, [.ref ak])), (ak, .inl (cI, 6, .inl fk)), (qt, .inr (1, [.ref aT])), (aT, .inl (cI, 8, .inl ft))]) (ws' := [(o, .inr (3, [.int se, .ref qd, .ref qe, .ref qo, .ref r, .int tc, .int fb, .int up, .int bk])), (qd, .inr (1, [.ref ad])), (ad, .inl (cI, N, .inl fd)), (qe, .inr (1, [.ref ae])), (ae, .inl (cI, N, .inl fe)), (qo, .inr (1, [.ref ao])), (ao, .inl (cI, 20, .inl fo)), (r, .inr (2, [.ref qi, .ref qs, .ref qk, .ref qt, .int (last + 1), .int (rw_enU N K (rw_image N fi used last 5 8 8 (rw_fill ft fk)) fs last used), .int lod, .int uod])), (qi, .inr (1, [.ref ai])), (ai, .inl (cI, N, .inl (rw_image N fi used last 5 8 8 (rw_fill ft fk)))), (qs, .inr (1, [.ref aS])), (aS, .inl (cI, K, .inl (rw_enS K fs last used))), (qk, .inr (1, [.ref ak])), (ak, .inl (cI, 6, .inl (rw_enK N K (rw_image N fi used last 5 8 8 (rw_fill ft fk)) fs fk last used))), (qt, .inr (1, [.ref aT])), (aT, .inl (cI, 8, .inl (rw_fill ft fk)))]) (va_runV (rest := []) ⟨hx, hb, hml, hown, hts⟩ (m_X1_writeState l dC dI cI cJ r qi ai qs aS qk ak qt aT N K fi fs fk ft last used lod uod (by first | assumption | decide) (by first | assumption | decide)) (cwV 0 hts gX2_whole_X1_writeState rfl rfl rfl hdv_X1_writeState ⟨Nat.le_of_ble_eq_true rfl, Nat.le_of_ble_eq_true rfl⟩) (k_preVW hK hP hD [7, 8, 9, 10, 11, 12, 13, 14, 15] rfl rfl 7 rfl rfl) rfl rfl hl.1 rfl (lv_room (Nat.le_of_ble_eq_true rfl)) dX2_whole_14 ⟨Nat.le_of_ble_eq_true rfl, Nat.le_of_ble_eq_true rfl⟩) hP hD hS [7, 8, 9, 10, 11, 12, 13, 14, 15] rfl rfl rfl rfl (fun H locs hP hD hS => ?_)
      exact k_iretT hx hb hr hlocks hP hS (by simp only [exWhole, x1, Option.none_or, x2, Option.none_or]) rfl rfl (Nat.le_of_ble_eq_true rfl) (Nat.le_of_ble_eq_true rfl) dX2_whole_17
