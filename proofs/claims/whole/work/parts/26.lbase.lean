/-! THE LAW: what holds at its start -/
abbrev lA (s : State) : Nat → Prop := fun q => s.heap.size ≤ q
def gZA (s : State) : Prop := vx_Zq Bundle.tN "UNASSIGNED_STACK" Bundle.steD (lA s) s s.heap ∧ vx_Zq Bundle.tN "SUPPRESSED_SENTINEL" Bundle.listD (lA s) s s.heap
theorem arr_of {args : Array Value} {s : State} {ty : FieldType} (h : (Cond.arrayClass ty).before args s = true) : ∃ c : ClassId, ArrOfT s c ty ∧ s.vm.findClass ("[" ++ ty.toString) = some c := by
  obtain ⟨c, k, comp, h1, h2, h3⟩ := Cond.arrayClass_spec h
  exact ⟨c, fun n z => ⟨fun k h => (by cases h), k, h2, comp, h3⟩, h1⟩
theorem str_of {args : Array Value} {s : State} {own tx : String} {k cur : Nat} (hc : s.vm.findClass own = some cur) (h : (Cond.stringRef own k tx).before args s = true) : ∃ a : Nat, vk_R own k tx a s := by
  have h1 : (Cond.stringRef own k tx).before #[] s = true := by first | exact h | simpa [Cond.before, Cond.holds, Cond.value] using h
  obtain ⟨-, -, -, a, -, -, -, -, -, h2⟩ := Cond.stringRef_spec hc h1
  exact ⟨a, vk_R.of h1 h2⟩
theorem in_gNF : ∀ q ∈ gNF, Cond.fieldLinkNest q.1 q.2.1 q.2.2.1 q.2.2.2.1 q.2.2.2.2.1 q.2.2.2.2.2 ∈ lw_tbl := by decide +kernel
theorem in_gNM : ∀ q ∈ gNM, Cond.methodLinkNest q.1 q.2.1 q.2.2.1 q.2.2.2 ∈ lw_tbl := by decide +kernel
theorem in_gStr : ∀ q ∈ gStr, Cond.stringRef RX2 q.1 q.2 ∈ lw_tbl := by decide +kernel
theorem in_i0 : Cond.instantiable RJx00060 6 ∈ lw_tbl := by decide +kernel
theorem in_i1 : Cond.instantiable RX0 1 ∈ lw_tbl := by decide +kernel
theorem in_i2 : Cond.instantiable RX1 8 ∈ lw_tbl := by decide +kernel
theorem in_i3 : Cond.instantiable RX2 9 ∈ lw_tbl := by decide +kernel
theorem in_i4 : Cond.instantiable RX3 13 ∈ lw_tbl := by decide +kernel
theorem in_aI : Cond.arrayClass .int ∈ lw_tbl := by decide +kernel
theorem in_aJ : Cond.arrayClass .long ∈ lw_tbl := by decide +kernel
theorem in_lU : Cond.laysStatic Bundle.tN "UNASSIGNED_STACK" Bundle.steD ∈ lw_tbl := by decide +kernel
theorem in_lN : Cond.laysStatic Bundle.tN "SUPPRESSED_SENTINEL" Bundle.listD ∈ lw_tbl := by decide +kernel
theorem in_iT : Cond.initialized Bundle.tN ∈ lw_tbl := by decide +kernel
theorem fl_U : Cond.isRef (.static Bundle.tN "UNASSIGNED_STACK" Bundle.steD) ∈ flatC (Jvm.Cond.and given_1 narrow_1) := by decide +kernel
theorem fl_N : Cond.isRef (.static Bundle.tN "SUPPRESSED_SENTINEL" Bundle.listD) ∈ flatC (Jvm.Cond.and given_1 narrow_1) := by decide +kernel
theorem fl_gN : ∀ q ∈ gNl, Cond.not (.castable q.1 q.2) ∈ flatC (Jvm.Cond.and given_1 narrow_1) := by decide +kernel
theorem law_facts {p : Program} {s : State} {m : MethodId} {meth : Method} {c : Code} {b L : Nat} {xs : Nat → Int32} (C0 : lw_At p s m meth c b L xs) : ∃ (dC : Nat → ClassId) (dI : Nat → Nat → Nat) (cI cJ : ClassId), gK dC dI cI cJ s ∧ gT s ∧ gZA s ∧ gN s := by
  obtain ⟨hx, hb, hr, hml, hown, hts, hX, hbl, hlocks, hgv⟩ := C0
  have hs := flat_of_before _ hgv
  obtain ⟨c0, iS0, k0⟩ := u_known (C := RJx00060) (T := TJx00060) (N := 6) (n := 6) hts in_wsJx (hts _ in_i0)
  obtain ⟨c1, iS1, k1⟩ := u_known (C := RX0) (T := TX0) (N := 1) (n := 1) hts in_wsX00 (hts _ in_i1)
  obtain ⟨c2, iS2, k2⟩ := u_known (C := RX1) (T := TX1) (N := 8) (n := 8) hts in_wsX10 (hts _ in_i2)
  obtain ⟨c3, iS3, k3⟩ := u_known (C := RX2) (T := TX2) (N := 9) (n := 9) hts in_wsX20 (hts _ in_i3)
  obtain ⟨c4, iS4, k4⟩ := u_known (C := RX3) (T := TX3) (N := 13) (n := 13) hts in_wsX30 (hts _ in_i4)
  obtain ⟨cI, aI, fI⟩ := arr_of (hts _ in_aI)
  obtain ⟨cJ, aJ, fJ⟩ := arr_of (hts _ in_aJ)
  refine ⟨fun k => if k = 0 then c0 else if k = 1 then c1 else if k = 2 then c2 else if k = 3 then c3 else c4, fun k => if k = 0 then iS0 else if k = 1 then iS1 else if k = 2 then iS2 else if k = 3 then iS3 else iS4, cI, cJ, ⟨⟨?_, ?_⟩, ?_, ?_⟩, ⟨?_, ?_⟩, ⟨?_, ?_⟩, ?_⟩
  · intro k q hq
    match k, hq with
    | 0, hq => cases hq; exact k0
    | 1, hq => cases hq; exact k1
    | 2, hq => cases hq; exact k2
    | 3, hq => cases hq; exact k3
    | 4, hq => cases hq; exact k4
    | k + 5, hq => simp [vwCl] at hq
  · intro k q hq
    match k, hq with
    | 0, hq => cases hq; exact ⟨aI, fI⟩
    | 1, hq => cases hq; exact ⟨aJ, fJ⟩
    | k + 2, hq => simp at hq
  · exact fun q hq => va_Nw.of rfl (hts _ (in_gNF q hq))
  · exact fun q hq => va_Nw.of rfl (hts _ (in_gNM q hq))
  · exact fun w hw => va_Nw.of (gXW_on w hw) (hts w (in_gXW w hw))
  · exact fun q hq => str_of k3.2.1 (hts _ (in_gStr q hq))
  · exact vx_Zqof (hts _ in_lU) (hts _ in_iT) (hs _ fl_U) (fun a h1 h2 => Nat.not_le.mpr h1 h2)
  · exact vx_Zqof (hts _ in_lN) (hts _ in_iT) (hs _ fl_N) (fun a h1 h2 => Nat.not_le.mpr h1 h2)
  · exact fun q hq => va_Nc.of (hs _ (fl_gN q hq))
/-! calls out of the law -/
section KL
variable {p : Program} {l : Launch} {e : Env} {R : Room} {s : State} {m : MethodId} {args : Array Value} {below : List Frame} {meth : Method} {c : Code} {H : Heap} {locs : List Loc} {cells slots : Nat} {Q : State → Prop}
variable {dC : Nat → ClassId} {dI : Nat → Nat → Nat} {cI cJ : ClassId} {ws ws' wc wc' : va_W} {A : Nat → Prop} {pc : Nat} {ls : Array Slot} {rest st0 : List Value} {av : List Value} {L Lc : List Nat} {mc ms : Nat}
theorem k_blH : FrameBlind (va_Pc av (mPh dC dI cI cJ ws L)) := fun _ U g mk q => ⟨q.1, ⟨q.2.1.1, q.2.1.2.1.call, q.2.1.2.2.1, q.2.1.2.2.2.1.call, gZ.moved (u := U) (U := U.calling g mk _) (Vm.Alike.refl U.vm) q.2.1.2.2.2.2⟩, gN.moved (u := U) (U := U.calling g mk _) (Vm.Alike.refl U.vm) q.2.2⟩
theorem k_preSH {As : List Value} (hK : gK dC dI cI cJ s) (hP : va_P (dC, dI) vwCl ws H) (hD : va_D (lA s) ws) (hS : va_S (lA s) s.heap H locs) (hT : gT s) (hZ : gZA s) (hN : gN s) (is : List Nat) (hn : va_nd is = true) (hs : is.map (fun i => ws[i]?) = wc.map some) (hL : wc.map Prod.fst = Lc) : PreS s H (va_Pc As (mPh dC dI cI cJ wc Lc)) As :=
  ⟨k_blH, fun U hU hW => ⟨rfl, ⟨by rw [hU]; exact k_subP hP hs, hK.warm hW, (hD.sub is hn hs).weaken (fun _ _ _ _ => trivial), hT.warm hW, by
    rw [hU]
    exact ⟨vx_Zq.moved hW.alike ((hZ.1.kept hS.2.1).narrow (k_inA hD hs hL)), vx_Zq.moved hW.alike ((hZ.2.kept hS.2.1).narrow (k_inA hD hs hL))⟩⟩, gN.moved hW.alike hN⟩⟩
theorem k_afH {r : Option Value} {a : Array Value} (hr : va_Run p l e R s m args below meth c H locs cells slots mc ms (F0 m pc ls st0) rest (mQ dC dI wc' L r a) (mA L))
    (hP : va_P (dC, dI) vwCl ws H) (hD : va_D A ws) (hS : va_S A s.heap H locs) (is : List Nat) (hs : is.map (fun i => ws[i]?) = wc.map some) (hL : wc.map Prod.fst = L) (hadr : wc'.map Prod.fst = L) (hput : k_put ws is wc' = ws')
    (kk : ∀ (H1 : Heap) (locs1 : List Loc), va_P (dC, dI) vwCl ws' H1 → va_D A ws' → va_S A s.heap H1 locs1 → W p l e R s m args below meth c H1 locs1 (cells + mc) (slots + ms) Q (F0 m (pc + 3) ls (r.toList ++ rest))) : W p l e R s m args below meth c H locs cells slots Q (F0 m pc ls st0) := by
  intro T hT X
  obtain ⟨v, st₀, t, T', Lo, h0, X', hLo, e1, -, ⟨hv, hP1, hz, hk⟩, st⟩ := hr T hT X
  cases hv
  rw [h0] at hz hk
  obtain ⟨hPn, hDn, hSn⟩ := k_join (t := t.heap) hP hD hS is hs hL hadr hput hP1 hz hk hLo
  obtain ⟨t2, a1, b1⟩ := kk T'.heap (locs ++ Lo) (by rw [e1]; exact hPn) hDn (by rw [e1]; exact hSn) T' rfl X'
  exact ⟨t2, st t2 a1, b1⟩
/-- an int of the script -/
theorem k_sld {cc : ByteArray} (hexec : p.tables.exec = Jvm.exec) (hb : c.code = cc) {b Ln i j : Nat} {xs : Nat → Int32} (hX : va_X b Ln xs s s.heap) (hbl : b < s.heap.size) (hS : va_S (lA s) s.heap H locs) (hij : i + j < Ln) (hL : Ln ≤ 2049) {x : Int32} (hx : x = nI (i + j)) (hdg : decode cc pc = .ok (.iaload, 1))
    (kk : W p l e R s m args below meth c H locs cells slots Q (F0 m (pc + 1) ls (.int (xs (i + j)) :: rest))) : W p l e R s m args below meth c H locs cells slots Q (F0 m pc ls (.int x :: .ref b :: rest)) := by
  subst hx
  refine va_sld hexec hb hX hbl (Nat.not_le.mpr hbl) hS (vp_in_nI hij (by omega)) hdg ?_
  rw [nI_clamp (by omega)]
  exact kk
end KL
theorem cmp_eq (x : Int64) : lg_cmp x x = 0 := by
  unfold lg_cmp
  rw [if_neg (Int64.lt_irrefl), if_pos rfl]
set_option maxHeartbeats 4000000 in
set_option maxRecDepth 100000 in
theorem c_cell (l : Launch) (b L : Nat) (xs : Nat → Int32) (hL : L ≤ 2049) : Met l yL_cell wsL_cell ({ frames := 0, cells := 0, slots := 0, locals := 0 }) (va_Pc [.ref b, .int 0] (fun U => va_X b L xs U U.heap)) (vp_Si (fun x => x = if 0 < L then xs 0 else 0)) 0 0 (fun _ => False) := by
  refine Met.ofW (cc := cL_cell) (maxL := 2) (ret := some .int) (by decide) rfl ?_
  intro p e s m args below meth c s₁ B hml hv
  obtain ⟨rfl, hX⟩ := hv
  have hx := B.exec
  have hb := B.bytes
  have hr := B.returns
  have hlocks := B.notSynchronized
  have hS : va_S (fun _ => False) s.heap s.heap [] := va_S.rf
  have hbl : b < s.heap.size := by
    obtain ⟨scr, h1, -⟩ := hX
    exact (Array.getElem?_eq_some_iff.mp h1).1
  have hl := lv_entry ([.ref b, .int 0]) (n := 2) (Nat.le_of_ble_eq_true rfl)
  rw [lg_entry_eq]
  generalize (lg_sl ([.ref b, .int 0]) ++ List.replicate (2 - (lg_sl ([.ref b, .int 0])).length) Slot.unset).toArray = ls at hl ⊢
  have hl : lv_has ls 2 [(0, .ref b), (1, .int 0)] := hl
  refine lv_iload_n hx hb dL_cell_0 rfl (lv_at hl 1 rfl) ?_
  refine lv_aload_n hx hb dL_cell_1 rfl (lv_at hl 0 rfl) ?_
  refine va_slen (A := fun _ => False) hx hb hX hbl id hS dL_cell_2 ?_
  refine lv_icmp_ge (tgt := 12) hx hb dL_cell_3 (by decide) (fun c1 => ?_) (fun c1 => ?_)
  · have hz : ¬ 0 < L := fun q => nI_ge (a := 0) (b := L) q (by omega) c1
    refine lv_iconst (v := 0) hx hb dL_cell_12 (by decide) ?_
    exact k_iretP (ret := none) hx hb hr hlocks (by rw [if_neg hz]) rfl dL_cell_13
  · have hz : 0 < L := Nat.pos_of_ne_zero (fun q => c1 (by rw [q]; exact Int32.le_refl _))
    refine lv_aload_n hx hb dL_cell_6 rfl (lv_at hl 0 rfl) ?_
    refine lv_iload_n hx hb dL_cell_7 rfl (lv_at hl 1 rfl) ?_
    refine va_sld (A := fun _ => False) hx hb hX hbl id hS (vp_in_nI (n := 0) hz (by omega)) dL_cell_8 ?_
    refine lv_goto (tgt := 13) hx hb dL_cell_9 (by decide) ?_
    exact k_iretP (ret := none) hx hb hr hlocks (by rw [if_pos hz]; rfl) rfl dL_cell_13
theorem k_blX {av : List Value} {b L : Nat} {xs : Nat → Int32} : FrameBlind (va_Pc av (fun U => va_X b L xs U U.heap)) := fun _ U g mk q => ⟨q.1, va_X.moved (u := U) (U := U.calling g mk _) (Vm.Alike.refl U.vm) q.2⟩
theorem k_preX {s : State} {H : Heap} {locs : List Loc} {b L : Nat} {xs : Nat → Int32} {av : List Value} (hX : va_X b L xs s s.heap) (hbl : b < s.heap.size) (hS : va_S (lA s) s.heap H locs) : PreS s H (va_Pc av (fun U => va_X b L xs U U.heap)) av :=
  ⟨k_blX, fun U hU hW => ⟨rfl, by show va_X b L xs U U.heap; rw [hU]; exact va_X.moved hW.alike (hX.kept (hS.2.1 b hbl (Nat.not_le.mpr hbl)))⟩⟩
