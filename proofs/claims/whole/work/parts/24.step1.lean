theorem pl_cases {n : Nat} (hn1 : 1 ≤ n) (hn : n ≤ 64) (sector i : Int32) : (isB n sector i = 0 ∧ exPlace (nI n) sector i = some xAIE) ∨ ∃ sc ix : Nat, sc < n ∧ ix < 32 ∧ sector = nI sc ∧ i = nI ix ∧ ¬ isB n sector i = 0 ∧ exPlace (nI n) sector i = none := by
  have h1 : nI (32 * n / 32) - 1 = nI (n - 1) := by
    rw [Nat.mul_div_cancel_left n (by decide), show (1 : Int32) = nI 1 from rfl, pk_sub hn1]
  have hm : isB n sector i = (if mWithin sector 0 (nI (n - 1)) = 0 then 0 else if mWithin i 0 31 = 0 then 0 else 1) := by
    unfold isB
    rw [h1]
  rw [hm]
  by_cases c1 : sector < 0
  · exact Or.inl ⟨if_pos (if_pos c1), if_pos c1⟩
  · by_cases c2 : nI n ≤ sector
    · refine Or.inl ⟨if_pos ?_, ?_⟩
      · unfold mWithin
        rw [if_neg c1, if_pos (Int32.lt_of_lt_of_le (nI_lt (show n - 1 < n by omega) (by omega)) c2)]
      · unfold exPlace
        rw [if_neg c1, if_pos c2]
    · obtain ⟨sc, hsc, rfl⟩ : ∃ sc : Nat, sc < n ∧ sector = nI sc := by
        rcases pk_ix sector (n := n) (by omega) with h | h | h
        · exact absurd h c1
        · exact absurd h c2
        · exact h
      have w1 : ¬ mWithin (nI sc) 0 (nI (n - 1)) = 0 := fun z => absurd ⟨Nat.zero_le sc, (by omega : sc ≤ n - 1)⟩ ((within_n (x := nI sc) (lo := 0) (hi := n - 1) rfl (by omega) (by omega) (by omega)).mp z)
      by_cases c3 : i < 0
      · refine Or.inl ⟨?_, ?_⟩
        · rw [if_neg w1, if_pos (show mWithin i 0 31 = 0 from if_pos c3)]
        · unfold exPlace
          rw [if_neg c1, if_neg c2, if_pos c3]
      · by_cases c4 : i < 32
        · obtain ⟨ix, hix, rfl⟩ : ∃ ix : Nat, ix < 32 ∧ i = nI ix := by
            rcases pk_ix i (n := 32) (by omega) with h | h | h
            · exact absurd h c3
            · exact absurd c4 (Int32.not_lt.mpr h)
            · exact h
          have w2 : ¬ mWithin (nI ix) 0 31 = 0 := fun z => absurd ⟨Nat.zero_le ix, (by omega : ix ≤ 31)⟩ ((within_n (x := nI ix) (lo := 0) (hi := 31) rfl (by omega) (by omega) (by omega)).mp z)
          refine Or.inr ⟨sc, ix, hsc, hix, rfl, rfl, ?_, ?_⟩
          · rw [if_neg w1, if_neg w2]
            decide
          · unfold exPlace
            rw [if_neg c1, if_neg c2, if_neg c3, if_pos c4]
        · refine Or.inl ⟨?_, ?_⟩
          · rw [if_neg w1, if_pos (show mWithin i 0 31 = 0 by unfold mWithin; rw [if_neg c3, if_pos (Int32.lt_of_lt_of_le (by decide) (Int32.not_lt.mp c4))])]
          · unfold exPlace
            rw [if_neg c1, if_neg c2, if_neg c3, if_neg c4]
theorem pl_eq (sc ix : Nat) : nI sc * 32 + nI ix = nI (32 * sc + ix) := by
  rw [show nI sc * 32 = nI (sc * 32) from pk_mul sc 32, nI_add, Nat.mul_comm]
theorem w_in {x : Int32} {R : Nat} (hR : R < 2 ^ 31) (h : ¬ mWithin x 1 (nI R) = 0) : ∃ nb : Nat, 1 ≤ nb ∧ nb ≤ R ∧ x = nI nb := by
  have c1 : ¬ x < 1 := fun c => h (if_pos c)
  obtain ⟨nb, h31, rfl⟩ := nI_of (x := x) (fun c => c1 (Int32.lt_trans c (by decide)))
  have h2 : 1 ≤ nb ∧ nb ≤ R := Decidable.byContradiction (fun q => h ((within_n (x := nI nb) (lo := 1) (hi := R) rfl h31 (by omega) hR).mpr q))
  exact ⟨nb, h2.1, h2.2, rfl⟩
set_option maxHeartbeats 4000000 in
set_option maxRecDepth 100000 in
theorem st_start (l : Launch) (dC : Nat → ClassId) (dI : Nat → Nat → Nat) (cI cJ : ClassId) (o qd ad qe ae qo ao r qi ai qs aS qk ak qt aT ja h d1 s1 i1 b1 t1 n R S T : Nat) (Bg ln : Nat → Nat) (fd fe fo fi fs fk ft fD fS fI fB fT : Nat → Int32) (wr up bk th : Int32) (fL : Nat → Int64) (hR : Rel n R S T Bg ln fd fe fo fi fs fk fD fS fI fB fT up bk) (hst : l.stackTraces = false)  : ∃ (R' S' T' : Nat) (Bg' ln' : Nat → Nat) (fd' fe' fo' fi' fs' fk' ft' fD' fS' fI' fB' fT' : Nat → Int32) (wr' up' bk' : Int32) (fL' : Nat → Int64) (c bb : Int32), Rel n R' S' T' Bg' ln' fd' fe' fo' fi' fs' fk' fD' fS' fI' fB' fT' up' bk' ∧ cW l yX2_start wsX2_start ({ frames := 6, cells := 0, slots := 0, locals := 135 }) dC dI cI cJ (wX cI o qd ad qe ae qo ao r qi ai qs aS qk ak qt aT n R S T Bg fd fe fo fi fs fk ft wr up bk) (wX cI o qd ad qe ae qo ao r qi ai qs aS qk ak qt aT n R' S' T' Bg' fd' fe' fo' fi' fs' fk' ft' wr' up' bk') [o, qd, ad, qe, ae, qo, ao, r, qi, ai, qs, aS, qk, ak, qt, aT] [.ref o] (some (.int bb)) ∧ cW l yX3_start wsX3_start ({ frames := 5, cells := 0, slots := 0, locals := 117 }) dC dI cI cJ (wM cI h d1 s1 i1 b1 t1 n R S T fD fS fI fB fT wr up bk th) (wM cI h d1 s1 i1 b1 t1 n R' S' T' fD' fS' fI' fB' fT' wr' up' bk' c) [h, d1, s1, i1, b1, t1] [.ref h] (some (.int bb)) := by
  obtain ⟨hR227, hRn, hSR⟩ := hR.R227
  obtain ⟨r1, r2, r3, r4, r5, r6, r7, r8, r9, r10, r11⟩ := id hR
  have hlast := nlt_i hR227
  have hN : n * 32 = 32 * n := Nat.mul_comm n 32
  have hK : n * 32 / 9 + 1 = 32 * n / 9 + 1 := by rw [hN]
  have hBR : fB R = nI (Bg R) := r5.2.2.2.1 R (Nat.le_refl R)
  have hBS : fB S = nI (Bg S) := r5.2.2.2.1 S r3
  obtain ⟨R2, Bg2, ln2, fi2, fs2, fk2, fI2, fB2, w, e1, e2, e3⟩ := slread_eq r1 r2 hN hK r6.1 (dk_Db r6) r5
  have h1 := m_X2_start l dC dI cI cJ o qd ad qe ae qo ao r qi ai qs aS qk ak qt aT (n * 32) (n * 32 / 9 + 1) fd fe fo fi fs fk ft (nI n) (nI T) wr up bk (nI R) (nI (Bg R)) (nI S) (nI (Bg S)) (by omega) (by omega) hlast
  rw [e2] at h1
  have h2 := m_X3_start l dC dI cI cJ h d1 s1 i1 b1 t1 fD fS fI fB fT n R S T bk up wr th Bg (fun j => (fD j).toNatClampNeg) r2 (dk_Db r6) (r5.2.2.2.1 0 (Nat.zero_le R)) r5.1
  rw [e1] at h2
  exact ⟨R2, R2, 0, Bg2, ln2, fd, fe, fo, fi2, fs2, fk2, ft, fD, fS, fI2, fB2, fT, (if w = 7 then 0 else w), 1, bk, fL, 0, nI R2, ⟨r1, r2, Nat.le_refl R2, by omega, e3, r6, r7, fun j hj => absurd hj (Nat.not_lt_zero j), Or.inr rfl, r10, fun _ => rfl⟩, h1, h2⟩
set_option maxHeartbeats 4000000 in
set_option maxRecDepth 100000 in
theorem st_poke (l : Launch) (dC : Nat → ClassId) (dI : Nat → Nat → Nat) (cI cJ : ClassId) (o qd ad qe ae qo ao r qi ai qs aS qk ak qt aT ja h d1 s1 i1 b1 t1 n R S T : Nat) (Bg ln : Nat → Nat) (fd fe fo fi fs fk ft fD fS fI fB fT : Nat → Int32) (wr up bk th : Int32) (fL : Nat → Int64) (hR : Rel n R S T Bg ln fd fe fo fi fs fk fD fS fI fB fT up bk) (hst : l.stackTraces = false) (sector : Int32) (i : Int32) (mask : Int32) : ∃ (R' S' T' : Nat) (Bg' ln' : Nat → Nat) (fd' fe' fo' fi' fs' fk' ft' fD' fS' fI' fB' fT' : Nat → Int32) (wr' up' bk' : Int32) (fL' : Nat → Int64) (c bb : Int32), Rel n R' S' T' Bg' ln' fd' fe' fo' fi' fs' fk' fD' fS' fI' fB' fT' up' bk' ∧ cH l yL_poke wqL_poke ({ frames := 9, cells := 1, slots := 6, locals := 141 }) dC dI cI cJ (wJ cI cJ o qd ad qe ae qo ao r qi ai qs aS qk ak qt aT ja n R S T Bg fd fe fo fi fs fk ft wr up bk fL) (wJ cI cJ o qd ad qe ae qo ao r qi ai qs aS qk ak qt aT ja n R' S' T' Bg' fd' fe' fo' fi' fs' fk' ft' wr' up' bk' fL') [o, qd, ad, qe, ae, qo, ao, r, qi, ai, qs, aS, qk, ak, qt, aT, ja] [.ref o, .int sector, .int i, .int mask, .ref ja] (some (.int c)) 1 6 ∧ cW l yX3_poke wsX3_poke ({ frames := 2, cells := 0, slots := 0, locals := 44 }) dC dI cI cJ (wM cI h d1 s1 i1 b1 t1 n R S T fD fS fI fB fT wr up bk th) (wM cI h d1 s1 i1 b1 t1 n R' S' T' fD' fS' fI' fB' fT' wr' up' bk' c) [h, d1, s1, i1, b1, t1] [.ref h, .int sector, .int i, .int mask] (some (.int bb)) ∧ (c = 0 → fL' 0 = bb.toInt64) := by
  obtain ⟨hR227, hRn, hSR⟩ := hR.R227
  obtain ⟨r1, r2, r3, r4, r5, r6, r7, r8, r9, r10, r11⟩ := id hR
  have hlast := nlt_i hR227
  have hN : n * 32 = 32 * n := Nat.mul_comm n 32
  have hK : n * 32 / 9 + 1 = 32 * n / 9 + 1 := by rw [hN]
  have hBR : fB R = nI (Bg R) := r5.2.2.2.1 R (Nat.le_refl R)
  have hBS : fB S = nI (Bg S) := r5.2.2.2.1 S r3
  rcases pl_cases r1 r2 sector i with ⟨hib, hpl⟩ | ⟨sc, ix, hsc, hix, rfl, rfl, hib, hpl⟩
  · by_cases c1 : mask < 1
    · have hex : exPoke (nI n) sector i mask = some xIAE := if_pos c1
      have hth : thPoke n sector i mask = 1 := if_pos (if_pos c1)
      have h2 := m_X3_pokeX l dC dI cI cJ h d1 s1 i1 b1 t1 fD fS fI fB fT n R S T bk up wr th sector i mask r2 hib
      simp only [hth, il0, il1, il2, il3] at h2
      exact ⟨R, S, T, Bg, ln, fd, fe, fo, fi, fs, fk, ft, fD, fS, fI, fB, fT, wr, up, bk, fL, 1, 0, hR, h_poke_IAE l dC dI cI cJ o qd ad qe ae qo ao r qi ai qs aS qk ak qt aT (n * 32) (n * 32 / 9 + 1) fd fe fo fi fs fk ft (nI n) (nI T) wr up bk (nI R) (nI (Bg R)) (nI S) (nI (Bg S)) sector i mask ja fL (by omega) (by omega) hex hst, h2, fun z => absurd z (by decide)⟩
    · by_cases c2 : mask ≤ 255
      · have hw : ¬ mWithin mask 1 255 = 0 := by unfold mWithin; rw [if_neg c1, if_neg (Int32.not_lt.mpr c2)]; decide
        have hex : exPoke (nI n) sector i mask = some xAIE := by unfold exPoke; rw [if_neg c1, if_pos c2, hpl]; rfl
        have hth : thPoke n sector i mask = 2 := by unfold thPoke; rw [if_neg hw, if_pos hib]
        have h2 := m_X3_pokeX l dC dI cI cJ h d1 s1 i1 b1 t1 fD fS fI fB fT n R S T bk up wr th sector i mask r2 hib
        simp only [hth, il0, il1, il2, il3] at h2
        exact ⟨R, S, T, Bg, ln, fd, fe, fo, fi, fs, fk, ft, fD, fS, fI, fB, fT, wr, up, bk, fL, 2, 0, hR, h_poke_AIE l dC dI cI cJ o qd ad qe ae qo ao r qi ai qs aS qk ak qt aT (n * 32) (n * 32 / 9 + 1) fd fe fo fi fs fk ft (nI n) (nI T) wr up bk (nI R) (nI (Bg R)) (nI S) (nI (Bg S)) sector i mask ja fL (by omega) (by omega) hex hst, h2, fun z => absurd z (by decide)⟩
      · have hex : exPoke (nI n) sector i mask = some xIAE := by unfold exPoke; rw [if_neg c1, if_neg c2]
        have hth : thPoke n sector i mask = 1 := by unfold thPoke mWithin; rw [if_neg c1, if_pos (Int32.not_le.mp c2)]; rfl
        have h2 := m_X3_pokeX l dC dI cI cJ h d1 s1 i1 b1 t1 fD fS fI fB fT n R S T bk up wr th sector i mask r2 hib
        simp only [hth, il0, il1, il2, il3] at h2
        exact ⟨R, S, T, Bg, ln, fd, fe, fo, fi, fs, fk, ft, fD, fS, fI, fB, fT, wr, up, bk, fL, 1, 0, hR, h_poke_IAE l dC dI cI cJ o qd ad qe ae qo ao r qi ai qs aS qk ak qt aT (n * 32) (n * 32 / 9 + 1) fd fe fo fi fs fk ft (nI n) (nI T) wr up bk (nI R) (nI (Bg R)) (nI S) (nI (Bg S)) sector i mask ja fL (by omega) (by omega) hex hst, h2, fun z => absurd z (by decide)⟩
  · by_cases c1 : mask < 1
    · have hex : exPoke (nI n) (nI sc) (nI ix) mask = some xIAE := if_pos c1
      have hth : thPoke n (nI sc) (nI ix) mask = 1 := if_pos (if_pos c1)
      have h2 := m_X3_poke l dC dI cI cJ h d1 s1 i1 b1 t1 fD fS fI fB fT n R S T bk up wr th sc ix mask r2 hsc hix hib
      simp only [hth, il0, il1, il2, il3] at h2
      exact ⟨R, S, T, Bg, ln, fd, fe, fo, fi, fs, fk, ft, fD, fS, fI, fB, fT, wr, up, bk, fL, 1, 0, hR, h_poke_IAE l dC dI cI cJ o qd ad qe ae qo ao r qi ai qs aS qk ak qt aT (n * 32) (n * 32 / 9 + 1) fd fe fo fi fs fk ft (nI n) (nI T) wr up bk (nI R) (nI (Bg R)) (nI S) (nI (Bg S)) (nI sc) (nI ix) mask ja fL (by omega) (by omega) hex hst, h2, fun z => absurd z (by decide)⟩
    · by_cases c2 : mask ≤ 255
      · have hw : ¬ mWithin mask 1 255 = 0 := by unfold mWithin; rw [if_neg c1, if_neg (Int32.not_lt.mpr c2)]; decide
        have hex : exPoke (nI n) (nI sc) (nI ix) mask = none := by unfold exPoke; rw [if_neg c1, if_pos c2, hpl]; rfl
        have hth : thPoke n (nI sc) (nI ix) mask = 0 := by unfold thPoke; rw [if_neg hw, if_neg hib]
        have h2 := m_X3_poke l dC dI cI cJ h d1 s1 i1 b1 t1 fD fS fI fB fT n R S T bk up wr th sc ix mask r2 hsc hix hib
        simp only [hth, il0] at h2
        have h1 := h_poke_ok l dC dI cI cJ o qd ad qe ae qo ao r qi ai qs aS qk ak qt aT (n * 32) (n * 32 / 9 + 1) fd fe fo fi fs fk ft (nI n) (nI T) wr up bk (nI R) (nI (Bg R)) (nI S) (nI (Bg S)) (nI sc) (nI ix) mask ja fL (by omega) (by omega) hex hst
        rw [pl_eq, ca_at_n (by omega) (by omega), ca_set_n (by omega) (by omega), ca_at_n (by omega) (by omega), (r6.1 (32 * sc + ix) (by omega)).1, pk_us] at h1
        rw [pk_us] at h2
        exact ⟨R, S, T, Bg, ln, (upd fd (32 * sc + ix) (fD (32 * sc + ix) ^^^ mask)), fe, fo, fi, fs, fk, ft, (upd fD (32 * sc + ix) (fD (32 * sc + ix) ^^^ mask)), fS, fI, fB, fT, wr, up, bk, (vp_updL fL 0 (fD (32 * sc + ix) ^^^ mask).toInt64), 0, (fD (32 * sc + ix) ^^^ mask), ⟨r1, r2, r3, r4, r5, dk_upd r6 (by8_xor (r6.2 _ (by omega)) (by8_of (fun z => c1 (Int32.lt_trans z (by decide))) c2)), r7, r8, r9, r10, r11⟩, h1, h2, fun _ => pk_uLs⟩
      · have hex : exPoke (nI n) (nI sc) (nI ix) mask = some xIAE := by unfold exPoke; rw [if_neg c1, if_neg c2]
        have hth : thPoke n (nI sc) (nI ix) mask = 1 := by unfold thPoke mWithin; rw [if_neg c1, if_pos (Int32.not_le.mp c2)]; rfl
        have h2 := m_X3_poke l dC dI cI cJ h d1 s1 i1 b1 t1 fD fS fI fB fT n R S T bk up wr th sc ix mask r2 hsc hix hib
        simp only [hth, il0, il1, il2, il3] at h2
        exact ⟨R, S, T, Bg, ln, fd, fe, fo, fi, fs, fk, ft, fD, fS, fI, fB, fT, wr, up, bk, fL, 1, 0, hR, h_poke_IAE l dC dI cI cJ o qd ad qe ae qo ao r qi ai qs aS qk ak qt aT (n * 32) (n * 32 / 9 + 1) fd fe fo fi fs fk ft (nI n) (nI T) wr up bk (nI R) (nI (Bg R)) (nI S) (nI (Bg S)) (nI sc) (nI ix) mask ja fL (by omega) (by omega) hex hst, h2, fun z => absurd z (by decide)⟩
set_option maxHeartbeats 4000000 in
set_option maxRecDepth 100000 in
theorem st_byteOf (l : Launch) (dC : Nat → ClassId) (dI : Nat → Nat → Nat) (cI cJ : ClassId) (o qd ad qe ae qo ao r qi ai qs aS qk ak qt aT ja h d1 s1 i1 b1 t1 n R S T : Nat) (Bg ln : Nat → Nat) (fd fe fo fi fs fk ft fD fS fI fB fT : Nat → Int32) (wr up bk th : Int32) (fL : Nat → Int64) (hR : Rel n R S T Bg ln fd fe fo fi fs fk fD fS fI fB fT up bk) (hst : l.stackTraces = false) (sector : Int32) (i : Int32) : ∃ (R' S' T' : Nat) (Bg' ln' : Nat → Nat) (fd' fe' fo' fi' fs' fk' ft' fD' fS' fI' fB' fT' : Nat → Int32) (wr' up' bk' : Int32) (fL' : Nat → Int64) (c bb : Int32), Rel n R' S' T' Bg' ln' fd' fe' fo' fi' fs' fk' fD' fS' fI' fB' fT' up' bk' ∧ cH l yL_byteOf wqL_byteOf ({ frames := 9, cells := 1, slots := 6, locals := 139 }) dC dI cI cJ (wJ cI cJ o qd ad qe ae qo ao r qi ai qs aS qk ak qt aT ja n R S T Bg fd fe fo fi fs fk ft wr up bk fL) (wJ cI cJ o qd ad qe ae qo ao r qi ai qs aS qk ak qt aT ja n R' S' T' Bg' fd' fe' fo' fi' fs' fk' ft' wr' up' bk' fL') [o, qd, ad, qe, ae, qo, ao, r, qi, ai, qs, aS, qk, ak, qt, aT, ja] [.ref o, .int sector, .int i, .ref ja] (some (.int c)) 1 6 ∧ cW l yX3_byteOf wsX3_byteOf ({ frames := 2, cells := 0, slots := 0, locals := 44 }) dC dI cI cJ (wM cI h d1 s1 i1 b1 t1 n R S T fD fS fI fB fT wr up bk th) (wM cI h d1 s1 i1 b1 t1 n R' S' T' fD' fS' fI' fB' fT' wr' up' bk' c) [h, d1, s1, i1, b1, t1] [.ref h, .int sector, .int i] (some (.int bb)) ∧ (c = 0 → fL' 0 = bb.toInt64) := by
  obtain ⟨hR227, hRn, hSR⟩ := hR.R227
  obtain ⟨r1, r2, r3, r4, r5, r6, r7, r8, r9, r10, r11⟩ := id hR
  have hlast := nlt_i hR227
  have hN : n * 32 = 32 * n := Nat.mul_comm n 32
  have hK : n * 32 / 9 + 1 = 32 * n / 9 + 1 := by rw [hN]
  have hBR : fB R = nI (Bg R) := r5.2.2.2.1 R (Nat.le_refl R)
  have hBS : fB S = nI (Bg S) := r5.2.2.2.1 S r3
  rcases pl_cases r1 r2 sector i with ⟨hib, hpl⟩ | ⟨sc, ix, hsc, hix, rfl, rfl, hib, hpl⟩
  · have hex : exOne (exPlace (nI n) sector i) = some xAIE := by unfold exOne; rw [hpl]; rfl
    exact ⟨R, S, T, Bg, ln, fd, fe, fo, fi, fs, fk, ft, fD, fS, fI, fB, fT, wr, up, bk, fL, 1, 0, hR, h_byteOf_AIE l dC dI cI cJ o qd ad qe ae qo ao r qi ai qs aS qk ak qt aT (n * 32) (n * 32 / 9 + 1) fd fe fo fi fs fk ft (nI n) (nI T) wr up bk (nI R) (nI (Bg R)) (nI S) (nI (Bg S)) sector i ja fL (by omega) (by omega) hex hst, m_X3_byteOfX l dC dI cI cJ h d1 s1 i1 b1 t1 fD fS fI fB fT n R S T bk up wr th sector i r2 hib, fun z => absurd z (by decide)⟩
  · have hex : exOne (exPlace (nI n) (nI sc) (nI ix)) = none := by unfold exOne; rw [hpl]; rfl
    have h1 := h_byteOf_ok l dC dI cI cJ o qd ad qe ae qo ao r qi ai qs aS qk ak qt aT (n * 32) (n * 32 / 9 + 1) fd fe fo fi fs fk ft (nI n) (nI T) wr up bk (nI R) (nI (Bg R)) (nI S) (nI (Bg S)) (nI sc) (nI ix) ja fL (by omega) (by omega) hex hst
    rw [pl_eq, ca_at_n (by omega) (by omega), (r6.1 (32 * sc + ix) (by omega)).1] at h1
    exact ⟨R, S, T, Bg, ln, fd, fe, fo, fi, fs, fk, ft, fD, fS, fI, fB, fT, wr, up, bk, (vp_updL fL 0 (fD (32 * sc + ix)).toInt64), 0, (fD (32 * sc + ix)), hR, h1, m_X3_byteOf l dC dI cI cJ h d1 s1 i1 b1 t1 fD fS fI fB fT n R S T bk up wr th sc ix r2 hsc hix hib, fun _ => pk_uLs⟩
set_option maxHeartbeats 4000000 in
set_option maxRecDepth 100000 in
theorem st_row (l : Launch) (dC : Nat → ClassId) (dI : Nat → Nat → Nat) (cI cJ : ClassId) (o qd ad qe ae qo ao r qi ai qs aS qk ak qt aT ja h d1 s1 i1 b1 t1 n R S T : Nat) (Bg ln : Nat → Nat) (fd fe fo fi fs fk ft fD fS fI fB fT : Nat → Int32) (wr up bk th : Int32) (fL : Nat → Int64) (hR : Rel n R S T Bg ln fd fe fo fi fs fk fD fS fI fB fT up bk) (hst : l.stackTraces = false) (number : Int32) (what : Int32) : ∃ (R' S' T' : Nat) (Bg' ln' : Nat → Nat) (fd' fe' fo' fi' fs' fk' ft' fD' fS' fI' fB' fT' : Nat → Int32) (wr' up' bk' : Int32) (fL' : Nat → Int64) (c bb : Int32), Rel n R' S' T' Bg' ln' fd' fe' fo' fi' fs' fk' fD' fS' fI' fB' fT' up' bk' ∧ cH l yL_row wnL_row ({ frames := 8, cells := 1, slots := 6, locals := 126 }) dC dI cI cJ (wJ cI cJ o qd ad qe ae qo ao r qi ai qs aS qk ak qt aT ja n R S T Bg fd fe fo fi fs fk ft wr up bk fL) (wJ cI cJ o qd ad qe ae qo ao r qi ai qs aS qk ak qt aT ja n R' S' T' Bg' fd' fe' fo' fi' fs' fk' ft' wr' up' bk' fL') [o, qd, ad, qe, ae, qo, ao, r, qi, ai, qs, aS, qk, ak, qt, aT, ja] [.ref o, .int number, .int what, .ref ja] (some (.int c)) 1 6 ∧ cW l yX3_row wsX3_row ({ frames := 1, cells := 0, slots := 0, locals := 22 }) dC dI cI cJ (wM cI h d1 s1 i1 b1 t1 n R S T fD fS fI fB fT wr up bk th) (wM cI h d1 s1 i1 b1 t1 n R' S' T' fD' fS' fI' fB' fT' wr' up' bk' c) [h, d1, s1, i1, b1, t1] [.ref h, .int number, .int what] (some (.int bb)) ∧ (c = 0 → fL' 0 = bb.toInt64) := by
  obtain ⟨hR227, hRn, hSR⟩ := hR.R227
  obtain ⟨r1, r2, r3, r4, r5, r6, r7, r8, r9, r10, r11⟩ := id hR
  have hlast := nlt_i hR227
  have hN : n * 32 = 32 * n := Nat.mul_comm n 32
  have hK : n * 32 / 9 + 1 = 32 * n / 9 + 1 := by rw [hN]
  have hBR : fB R = nI (Bg R) := r5.2.2.2.1 R (Nat.le_refl R)
  have hBS : fB S = nI (Bg S) := r5.2.2.2.1 S r3
  by_cases c1 : mWithin number 1 (nI R) = 0
  · have hex : exRow (n * 32) (n * 32 / 9 + 1) fi fs (nI R) number what = some xNSE := if_pos c1
    exact ⟨R, S, T, Bg, ln, fd, fe, fo, fi, fs, fk, ft, fD, fS, fI, fB, fT, wr, up, bk, fL, 1, 0, hR, hn_row_NSE l dC dI cI cJ o qd ad qe ae qo ao r qi ai qs aS qk ak qt aT (n * 32) (n * 32 / 9 + 1) fd fe fo fi fs fk ft (nI n) (nI T) wr up bk (nI R) (nI (Bg R)) (nI S) (nI (Bg S)) number what ja fL (by omega) (by omega) hex hst, m_X3_rowX l dC dI cI cJ h d1 s1 i1 b1 t1 fD fS fI fB fT n R S T bk up wr th number what c1, fun z => absurd z (by decide)⟩
  · obtain ⟨nb, hn1, hnR, rfl⟩ := w_in (by omega) c1
    obtain ⟨j, rfl⟩ : ∃ j, nb = j + 1 := ⟨nb - 1, by omega⟩
    have h9 := (r5.le (Nat.le_refl R)).2
    have h3 := r5.in (j := j) (by omega)
    have h4 := r5.2.2.1 j (by omega)
    have hs := r5.2.2.2.2.1 j (by omega)
    have eK : rw_kindOf (n * 32) (n * 32 / 9 + 1) fi fs (nI (j + 1)) = fI (Bg j + 1) := by rw [rw_kind_n (by omega) (by omega) (by omega) hs (by omega), (r5.2.2.2.2.2.1 (Bg j + 1) (by omega)).1]
    have eL : rw_lengthOf (n * 32) (n * 32 / 9 + 1) fi fs (nI (j + 1)) = nI (ln j) := by rw [rw_len_n (by omega) (by omega) (by omega) hs (by omega), (r5.2.2.2.2.2.1 (Bg j + 4) (by omega)).1, h4.2.2.1]
    by_cases c2 : what < 0
    · have hlt : what < 10 := Int32.lt_trans c2 (by decide)
      have hex : exRow (n * 32) (n * 32 / 9 + 1) fi fs (nI R) (nI (j + 1)) what = some xIAE := by unfold exRow; rw [if_neg (show ¬ (if nI (j + 1) < 1 then (0 : Int32) else if nI R < nI (j + 1) then 0 else 1) = 0 from c1), if_pos hlt, if_neg (fun z => absurd (z ▸ c2) (by decide)), if_neg (fun z => absurd (z ▸ c2) (by decide)), if_neg (fun z => absurd (z ▸ c2) (by decide))]
      exact ⟨R, S, T, Bg, ln, fd, fe, fo, fi, fs, fk, ft, fD, fS, fI, fB, fT, wr, up, bk, fL, 2, 0, hR, hn_row_IAE l dC dI cI cJ o qd ad qe ae qo ao r qi ai qs aS qk ak qt aT (n * 32) (n * 32 / 9 + 1) fd fe fo fi fs fk ft (nI n) (nI T) wr up bk (nI R) (nI (Bg R)) (nI S) (nI (Bg S)) (nI (j + 1)) what ja fL (by omega) (by omega) hex hst, m_X3_rowY l dC dI cI cJ h d1 s1 i1 b1 t1 fD fS fI fB fT n R S T bk up wr th (j + 1) what c1 (if_pos c2) (Int32.not_le.mpr hlt), fun z => absurd z (by decide)⟩
    · obtain ⟨w, hw31, rfl⟩ := nI_of (x := what) c2
      have hwi : mWithin (nI w) 0 2 = 0 ↔ ¬ (0 ≤ w ∧ w ≤ 2) := within_n (x := nI w) (lo := 0) (hi := 2) rfl hw31 (by omega) (by omega)
      by_cases c3 : w < 10
      · have hlt : nI w < 10 := nI_lt (b := 10) c3 (by omega)
        by_cases c4 : w ≤ 2
        · have hth : thRow w (ln j) = 0 := by unfold thRow; rw [if_neg (fun z => hwi.mp z ⟨Nat.zero_le w, c4⟩), if_pos c3]
          have hex : exRow (n * 32) (n * 32 / 9 + 1) fi fs (nI R) (nI (j + 1)) (nI w) = none := by
            unfold exRow
            rw [if_neg (show ¬ (if nI (j + 1) < 1 then (0 : Int32) else if nI R < nI (j + 1) then 0 else 1) = 0 from c1), if_pos hlt]
            rcases (show w = 0 ∨ w = 1 ∨ w = 2 by omega) with rfl | rfl | rfl <;> rfl
          have hrow : sl_row (n * 32) (n * 32 / 9 + 1) fi fs (nI S) (nI (j + 1)) (nI w) = rowN fI S (j + 1) (Bg j) w (ln j) := by
            unfold sl_row rowN
            rw [if_pos hlt, eK, eL, Nat.add_sub_cancel]
            rcases (show w = 0 ∨ w = 1 ∨ w = 2 by omega) with rfl | rfl | rfl
            · rfl
            · rfl
            · show (if nI S < nI (j + 1) then (0 : Int32) else 1) = (if S ≤ j then 0 else 1)
              by_cases c5 : S ≤ j
              · rw [if_pos c5, if_pos (nI_lt (by omega) (by omega))]
              · rw [if_neg c5, if_neg (nI_nlt (by omega) (by omega))]
          have h2 := m_X3_row l dC dI cI cJ h d1 s1 i1 b1 t1 fD fS fI fB fT n R S T bk up wr th (j + 1) (Bg j) (ln j) w r2 hR227 r3 ⟨by omega, by omega⟩ (r5.2.2.2.1 j (by omega)) (by omega) h4.2.2.1 h4.2.1 c1 hw31
          simp only [hth, il0] at h2
          have h1 := hn_row_ok l dC dI cI cJ o qd ad qe ae qo ao r qi ai qs aS qk ak qt aT (n * 32) (n * 32 / 9 + 1) fd fe fo fi fs fk ft (nI n) (nI T) wr up bk (nI R) (nI (Bg R)) (nI S) (nI (Bg S)) (nI (j + 1)) (nI w) ja fL (by omega) (by omega) hex hst
          rw [hrow] at h1
          exact ⟨R, S, T, Bg, ln, fd, fe, fo, fi, fs, fk, ft, fD, fS, fI, fB, fT, wr, up, bk, (vp_updL fL 0 (rowN fI S (j + 1) (Bg j) w (ln j)).toInt64), 0, (rowN fI S (j + 1) (Bg j) w (ln j)), hR, h1, h2, fun _ => pk_uLs⟩
        · have hth : thRow w (ln j) = 2 := by unfold thRow; rw [if_pos (hwi.mpr (fun z => c4 z.2)), if_neg (by omega)]
          have ne : ∀ q : Nat, q ≤ 2 → ¬ nI w = nI q := fun q hq z => c4 (by have := (nI_eq hw31 (by omega)).mp z; omega)
          have hex : exRow (n * 32) (n * 32 / 9 + 1) fi fs (nI R) (nI (j + 1)) (nI w) = some xIAE := by unfold exRow; rw [if_neg (show ¬ (if nI (j + 1) < 1 then (0 : Int32) else if nI R < nI (j + 1) then 0 else 1) = 0 from c1), if_pos hlt, if_neg (show ¬ nI w = 0 from ne 0 (by omega)), if_neg (show ¬ nI w = 1 from ne 1 (by omega)), if_neg (show ¬ nI w = 2 from ne 2 (by omega))]
          have h2 := m_X3_row l dC dI cI cJ h d1 s1 i1 b1 t1 fD fS fI fB fT n R S T bk up wr th (j + 1) (Bg j) (ln j) w r2 hR227 r3 ⟨by omega, by omega⟩ (r5.2.2.2.1 j (by omega)) (by omega) h4.2.2.1 h4.2.1 c1 hw31
          simp only [hth, il0, il1, il2, il3] at h2
          exact ⟨R, S, T, Bg, ln, fd, fe, fo, fi, fs, fk, ft, fD, fS, fI, fB, fT, wr, up, bk, fL, 2, 0, hR, hn_row_IAE l dC dI cI cJ o qd ad qe ae qo ao r qi ai qs aS qk ak qt aT (n * 32) (n * 32 / 9 + 1) fd fe fo fi fs fk ft (nI n) (nI T) wr up bk (nI R) (nI (Bg R)) (nI S) (nI (Bg S)) (nI (j + 1)) (nI w) ja fL (by omega) (by omega) hex hst, h2, fun z => absurd z (by decide)⟩
      · have hge : ¬ nI w < 10 := nI_nlt (b := 10) (by omega) hw31
        have hsub : nI w - 10 = nI (w - 10) := pk_sub (b := 10) (by omega)
        have hwn := hwi.mpr (fun z => absurd z.2 (by omega))
        by_cases c4 : w - 10 < ln j
        · have hth : thRow w (ln j) = 0 := by unfold thRow; rw [if_pos hwn, if_pos (by omega), if_neg c3, if_pos c4]
          have hex : exRow (n * 32) (n * 32 / 9 + 1) fi fs (nI R) (nI (j + 1)) (nI w) = none := by unfold exRow exByte; rw [if_neg (show ¬ (if nI (j + 1) < 1 then (0 : Int32) else if nI R < nI (j + 1) then 0 else 1) = 0 from c1), if_neg hge, hsub, eL, if_pos (nI_lt c4 (by omega))]; rfl
          have hrow : sl_row (n * 32) (n * 32 / 9 + 1) fi fs (nI S) (nI (j + 1)) (nI w) = rowN fI S (j + 1) (Bg j) w (ln j) := by
            unfold sl_row rowN
            rw [if_neg hge, hsub, rw_byte_n (by omega) (by omega) (by omega) hs (by omega), (r5.2.2.2.2.2.1 (Bg j + 5 + (w - 10)) (by omega)).1, if_neg (by omega), if_neg (by omega), if_neg (by omega), show Bg j + 5 + w - 10 = Bg j + 5 + (w - 10) by omega]
          have h2 := m_X3_row l dC dI cI cJ h d1 s1 i1 b1 t1 fD fS fI fB fT n R S T bk up wr th (j + 1) (Bg j) (ln j) w r2 hR227 r3 ⟨by omega, by omega⟩ (r5.2.2.2.1 j (by omega)) (by omega) h4.2.2.1 h4.2.1 c1 hw31
          simp only [hth, il0] at h2
          have h1 := hn_row_ok l dC dI cI cJ o qd ad qe ae qo ao r qi ai qs aS qk ak qt aT (n * 32) (n * 32 / 9 + 1) fd fe fo fi fs fk ft (nI n) (nI T) wr up bk (nI R) (nI (Bg R)) (nI S) (nI (Bg S)) (nI (j + 1)) (nI w) ja fL (by omega) (by omega) hex hst
          rw [hrow] at h1
          exact ⟨R, S, T, Bg, ln, fd, fe, fo, fi, fs, fk, ft, fD, fS, fI, fB, fT, wr, up, bk, (vp_updL fL 0 (rowN fI S (j + 1) (Bg j) w (ln j)).toInt64), 0, (rowN fI S (j + 1) (Bg j) w (ln j)), hR, h1, h2, fun _ => pk_uLs⟩
        · have hth : thRow w (ln j) = 1 := by unfold thRow; rw [if_pos hwn, if_pos (by omega), if_neg c3, if_neg c4]
          have hex : exRow (n * 32) (n * 32 / 9 + 1) fi fs (nI R) (nI (j + 1)) (nI w) = some xNSE := by unfold exRow exByte; rw [if_neg (show ¬ (if nI (j + 1) < 1 then (0 : Int32) else if nI R < nI (j + 1) then 0 else 1) = 0 from c1), if_neg hge, hsub, eL, if_neg (nI_nlt (by omega) (by omega))]; rfl
          have h2 := m_X3_row l dC dI cI cJ h d1 s1 i1 b1 t1 fD fS fI fB fT n R S T bk up wr th (j + 1) (Bg j) (ln j) w r2 hR227 r3 ⟨by omega, by omega⟩ (r5.2.2.2.1 j (by omega)) (by omega) h4.2.2.1 h4.2.1 c1 hw31
          simp only [hth, il0, il1, il2, il3] at h2
          exact ⟨R, S, T, Bg, ln, fd, fe, fo, fi, fs, fk, ft, fD, fS, fI, fB, fT, wr, up, bk, fL, 1, 0, hR, hn_row_NSE l dC dI cI cJ o qd ad qe ae qo ao r qi ai qs aS qk ak qt aT (n * 32) (n * 32 / 9 + 1) fd fe fo fi fs fk ft (nI n) (nI T) wr up bk (nI R) (nI (Bg R)) (nI S) (nI (Bg S)) (nI (j + 1)) (nI w) ja fL (by omega) (by omega) hex hst, h2, fun z => absurd z (by decide)⟩
set_option maxHeartbeats 4000000 in
set_option maxRecDepth 100000 in
theorem st_find (l : Launch) (dC : Nat → ClassId) (dI : Nat → Nat → Nat) (cI cJ : ClassId) (o qd ad qe ae qo ao r qi ai qs aS qk ak qt aT ja h d1 s1 i1 b1 t1 n R S T : Nat) (Bg ln : Nat → Nat) (fd fe fo fi fs fk ft fD fS fI fB fT : Nat → Int32) (wr up bk th : Int32) (fL : Nat → Int64) (hR : Rel n R S T Bg ln fd fe fo fi fs fk fD fS fI fB fT up bk) (hst : l.stackTraces = false) (kind : Int32) (i : Int32) : ∃ (R' S' T' : Nat) (Bg' ln' : Nat → Nat) (fd' fe' fo' fi' fs' fk' ft' fD' fS' fI' fB' fT' : Nat → Int32) (wr' up' bk' : Int32) (fL' : Nat → Int64) (c bb : Int32), Rel n R' S' T' Bg' ln' fd' fe' fo' fi' fs' fk' fD' fS' fI' fB' fT' up' bk' ∧ cH l yL_find wsL_find ({ frames := 8, cells := 2, slots := 12, locals := 125 }) dC dI cI cJ (wJ cI cJ o qd ad qe ae qo ao r qi ai qs aS qk ak qt aT ja n R S T Bg fd fe fo fi fs fk ft wr up bk fL) (wJ cI cJ o qd ad qe ae qo ao r qi ai qs aS qk ak qt aT ja n R' S' T' Bg' fd' fe' fo' fi' fs' fk' ft' wr' up' bk' fL') [o, qd, ad, qe, ae, qo, ao, r, qi, ai, qs, aS, qk, ak, qt, aT, ja] [.ref o, .int kind, .int i, .ref ja] (some (.int c)) 2 12 ∧ cW l yX3_find wsX3_find ({ frames := 1, cells := 0, slots := 0, locals := 22 }) dC dI cI cJ (wM cI h d1 s1 i1 b1 t1 n R S T fD fS fI fB fT wr up bk th) (wM cI h d1 s1 i1 b1 t1 n R' S' T' fD' fS' fI' fB' fT' wr' up' bk' c) [h, d1, s1, i1, b1, t1] [.ref h, .int kind, .int i] (some (.int bb)) ∧ (c = 0 → fL' 0 = bb.toInt64) := by
  obtain ⟨hR227, hRn, hSR⟩ := hR.R227
  obtain ⟨r1, r2, r3, r4, r5, r6, r7, r8, r9, r10, r11⟩ := id hR
  have hlast := nlt_i hR227
  have hN : n * 32 = 32 * n := Nat.mul_comm n 32
  have hK : n * 32 / 9 + 1 = 32 * n / 9 + 1 := by rw [hN]
  have hBR : fB R = nI (Bg R) := r5.2.2.2.1 R (Nat.le_refl R)
  have hBS : fB S = nI (Bg S) := r5.2.2.2.1 S r3
  by_cases c1 : mWithin kind 1 5 = 0
  · have hex : exFind kind i = some xIAE := by unfold exFind exKind; rw [if_pos (show sl_isKind kind = 0 from c1)]; rfl
    have hth : thFind kind i = 1 := if_pos c1
    have h2 := m_X3_find l dC dI cI cJ h d1 s1 i1 b1 t1 fD fS fI fB fT n R S T bk up wr th Bg kind i r2 hR227 (fun j hj => ⟨r5.2.2.2.1 j (by omega), by have := r5.in hj; omega⟩)
    simp only [hth, il0, il1, il2, il3] at h2
    exact ⟨R, S, T, Bg, ln, fd, fe, fo, fi, fs, fk, ft, fD, fS, fI, fB, fT, wr, up, bk, fL, 1, 0, hR, h_find_IAE l dC dI cI cJ o qd ad qe ae qo ao r qi ai qs aS qk ak qt aT (n * 32) (n * 32 / 9 + 1) fd fe fo fi fs fk ft (nI n) (nI T) wr up bk (nI R) (nI (Bg R)) (nI S) (nI (Bg S)) kind i ja fL (by omega) (by omega) hlast hex hst, h2, fun z => absurd z (by decide)⟩
  · by_cases c2 : i < 0
    · have hex : exFind kind i = some xIAE := by unfold exFind exKind; rw [if_neg (show ¬ sl_isKind kind = 0 from c1), or_no, if_neg (Int32.not_le.mpr c2)]
      have hth : thFind kind i = 1 := by unfold thFind; rw [if_neg c1, if_pos c2]
      have h2 := m_X3_find l dC dI cI cJ h d1 s1 i1 b1 t1 fD fS fI fB fT n R S T bk up wr th Bg kind i r2 hR227 (fun j hj => ⟨r5.2.2.2.1 j (by omega), by have := r5.in hj; omega⟩)
      simp only [hth, il0, il1, il2, il3] at h2
      exact ⟨R, S, T, Bg, ln, fd, fe, fo, fi, fs, fk, ft, fD, fS, fI, fB, fT, wr, up, bk, fL, 1, 0, hR, h_find_IAE l dC dI cI cJ o qd ad qe ae qo ao r qi ai qs aS qk ak qt aT (n * 32) (n * 32 / 9 + 1) fd fe fo fi fs fk ft (nI n) (nI T) wr up bk (nI R) (nI (Bg R)) (nI S) (nI (Bg S)) kind i ja fL (by omega) (by omega) hlast hex hst, h2, fun z => absurd z (by decide)⟩
    · have hex : exFind kind i = none := by unfold exFind exKind; rw [if_neg (show ¬ sl_isKind kind = 0 from c1), or_no, if_pos (Int32.not_lt.mp c2)]
      have hth : thFind kind i = 0 := by unfold thFind; rw [if_neg c1, if_neg c2]
      have h2 := m_X3_find l dC dI cI cJ h d1 s1 i1 b1 t1 fD fS fI fB fT n R S T bk up wr th Bg kind i r2 hR227 (fun j hj => ⟨r5.2.2.2.1 j (by omega), by have := r5.in hj; omega⟩)
      simp only [hth, il0] at h2
      have h1 := h_find_ok l dC dI cI cJ o qd ad qe ae qo ao r qi ai qs aS qk ak qt aT (n * 32) (n * 32 / 9 + 1) fd fe fo fi fs fk ft (nI n) (nI T) wr up bk (nI R) (nI (Bg R)) (nI S) (nI (Bg S)) kind i ja fL (by omega) (by omega) hlast hex hst
      rw [numberOf_eq r2 hN hK r5] at h1
      exact ⟨R, S, T, Bg, ln, fd, fe, fo, fi, fs, fk, ft, fD, fS, fI, fB, fT, wr, up, bk, (vp_updL fL 0 (fdN fI Bg kind i 0 0 R).toInt64), 0, (fdN fI Bg kind i 0 0 R), hR, h1, h2, fun _ => pk_uLs⟩
set_option maxHeartbeats 4000000 in
set_option maxRecDepth 100000 in
theorem st_backup (l : Launch) (dC : Nat → ClassId) (dI : Nat → Nat → Nat) (cI cJ : ClassId) (o qd ad qe ae qo ao r qi ai qs aS qk ak qt aT ja h d1 s1 i1 b1 t1 n R S T : Nat) (Bg ln : Nat → Nat) (fd fe fo fi fs fk ft fD fS fI fB fT : Nat → Int32) (wr up bk th : Int32) (fL : Nat → Int64) (hR : Rel n R S T Bg ln fd fe fo fi fs fk fD fS fI fB fT up bk) (hst : l.stackTraces = false)  : ∃ (R' S' T' : Nat) (Bg' ln' : Nat → Nat) (fd' fe' fo' fi' fs' fk' ft' fD' fS' fI' fB' fT' : Nat → Int32) (wr' up' bk' : Int32) (fL' : Nat → Int64) (c bb : Int32), Rel n R' S' T' Bg' ln' fd' fe' fo' fi' fs' fk' fD' fS' fI' fB' fT' up' bk' ∧ cH l yL_backup wsL_backup ({ frames := 8, cells := 1, slots := 6, locals := 122 }) dC dI cI cJ (wJ cI cJ o qd ad qe ae qo ao r qi ai qs aS qk ak qt aT ja n R S T Bg fd fe fo fi fs fk ft wr up bk fL) (wJ cI cJ o qd ad qe ae qo ao r qi ai qs aS qk ak qt aT ja n R' S' T' Bg' fd' fe' fo' fi' fs' fk' ft' wr' up' bk' fL') [o, qd, ad, qe, ae, qo, ao, r, qi, ai, qs, aS, qk, ak, qt, aT, ja] [.ref o, .ref ja] (some (.int c)) 1 6 ∧ cW l yX3_backup wsX3_backup ({ frames := 0, cells := 0, slots := 0, locals := 0 }) dC dI cI cJ (wM cI h d1 s1 i1 b1 t1 n R S T fD fS fI fB fT wr up bk th) (wM cI h d1 s1 i1 b1 t1 n R' S' T' fD' fS' fI' fB' fT' wr' up' bk' c) [h, d1, s1, i1, b1, t1] [.ref h] (some (.int bb)) ∧ (c = 0 → fL' 0 = bb.toInt64) := by
  obtain ⟨hR227, hRn, hSR⟩ := hR.R227
  obtain ⟨r1, r2, r3, r4, r5, r6, r7, r8, r9, r10, r11⟩ := id hR
  have hlast := nlt_i hR227
  have hN : n * 32 = 32 * n := Nat.mul_comm n 32
  have hK : n * 32 / 9 + 1 = 32 * n / 9 + 1 := by rw [hN]
  have hBR : fB R = nI (Bg R) := r5.2.2.2.1 R (Nat.le_refl R)
  have hBS : fB S = nI (Bg S) := r5.2.2.2.1 S r3
  by_cases c3 : up = 0
  · have hex : exOne (exDown up) = some xISE := by unfold exOne exDown; rw [if_pos c3]; rfl
    have hth : thUp up = 1 := if_pos c3
    have h2 := m_X3_backup l dC dI cI cJ h d1 s1 i1 b1 t1 fD fS fI fB fT n R S T bk up wr th r2
    simp only [hth, il0, il1, il2, il3] at h2
    exact ⟨R, S, T, Bg, ln, fd, fe, fo, fi, fs, fk, ft, fD, fS, fI, fB, fT, wr, up, bk, fL, 1, 0, hR, h_backup_ISE l dC dI cI cJ o qd ad qe ae qo ao r qi ai qs aS qk ak qt aT (n * 32) (n * 32 / 9 + 1) fd fe fo fi fs fk ft (nI n) (nI T) wr up bk (nI R) (nI (Bg R)) (nI S) (nI (Bg S)) ja fL (by omega) (by omega) hex hst, h2, fun z => absurd z (by decide)⟩
  · have hex : exOne (exDown up) = none := by unfold exOne exDown; rw [if_neg c3]; rfl
    have hth : thUp up = 0 := if_neg c3
    have h2 := m_X3_backup l dC dI cI cJ h d1 s1 i1 b1 t1 fD fS fI fB fT n R S T bk up wr th r2
    simp only [hth, il0] at h2
    have h1 := h_backup_ok l dC dI cI cJ o qd ad qe ae qo ao r qi ai qs aS qk ak qt aT (n * 32) (n * 32 / 9 + 1) fd fe fo fi fs fk ft (nI n) (nI T) wr up bk (nI R) (nI (Bg R)) (nI S) (nI (Bg S)) ja fL (by omega) (by omega) hex hst
    have hcp : ca_copy (n * 32) fe (n * 32) fd 0 (nI (n * 32)) = cpN fe fd 0 (32 * n) := (ca_copy_n (a := 0) (b := n * 32) (Nat.zero_le _) (Nat.le_refl _) (Nat.le_refl _) (by omega) (by omega)).trans (by rw [Nat.sub_zero, hN])
    rw [hcp] at h1
    exact ⟨R, S, T, Bg, ln, fd, (cpN fe fd 0 (32 * n)), fo, fi, fs, fk, ft, fD, (cpN fS fD 0 (32 * n)), fI, fB, fT, wr, up, 1, (vp_updL fL 0 (nI S).toInt64), 0, (nI S), ⟨r1, r2, r3, r4, r5, r6, dk_cp r7 _ (fun p _ h4 => r6.1 p (by omega)), r8, r9, Or.inr rfl, r11⟩, h1, h2, fun _ => pk_uLs⟩
set_option maxHeartbeats 4000000 in
set_option maxRecDepth 100000 in
theorem st_restore (l : Launch) (dC : Nat → ClassId) (dI : Nat → Nat → Nat) (cI cJ : ClassId) (o qd ad qe ae qo ao r qi ai qs aS qk ak qt aT ja h d1 s1 i1 b1 t1 n R S T : Nat) (Bg ln : Nat → Nat) (fd fe fo fi fs fk ft fD fS fI fB fT : Nat → Int32) (wr up bk th : Int32) (fL : Nat → Int64) (hR : Rel n R S T Bg ln fd fe fo fi fs fk fD fS fI fB fT up bk) (hst : l.stackTraces = false)  : ∃ (R' S' T' : Nat) (Bg' ln' : Nat → Nat) (fd' fe' fo' fi' fs' fk' ft' fD' fS' fI' fB' fT' : Nat → Int32) (wr' up' bk' : Int32) (fL' : Nat → Int64) (c bb : Int32), Rel n R' S' T' Bg' ln' fd' fe' fo' fi' fs' fk' fD' fS' fI' fB' fT' up' bk' ∧ cH l yL_restore wsL_restore ({ frames := 7, cells := 1, slots := 6, locals := 155 }) dC dI cI cJ (wJ cI cJ o qd ad qe ae qo ao r qi ai qs aS qk ak qt aT ja n R S T Bg fd fe fo fi fs fk ft wr up bk fL) (wJ cI cJ o qd ad qe ae qo ao r qi ai qs aS qk ak qt aT ja n R' S' T' Bg' fd' fe' fo' fi' fs' fk' ft' wr' up' bk' fL') [o, qd, ad, qe, ae, qo, ao, r, qi, ai, qs, aS, qk, ak, qt, aT, ja] [.ref o, .ref ja] (some (.int c)) 1 6 ∧ cW l yX3_restore wsX3_restore ({ frames := 5, cells := 0, slots := 0, locals := 117 }) dC dI cI cJ (wM cI h d1 s1 i1 b1 t1 n R S T fD fS fI fB fT wr up bk th) (wM cI h d1 s1 i1 b1 t1 n R' S' T' fD' fS' fI' fB' fT' wr' up' bk' c) [h, d1, s1, i1, b1, t1] [.ref h] (some (.int bb)) ∧ (c = 0 → fL' 0 = bb.toInt64) := by
  obtain ⟨hR227, hRn, hSR⟩ := hR.R227
  obtain ⟨r1, r2, r3, r4, r5, r6, r7, r8, r9, r10, r11⟩ := id hR
  have hlast := nlt_i hR227
  have hN : n * 32 = 32 * n := Nat.mul_comm n 32
  have hK : n * 32 / 9 + 1 = 32 * n / 9 + 1 := by rw [hN]
  have hBR : fB R = nI (Bg R) := r5.2.2.2.1 R (Nat.le_refl R)
  have hBS : fB S = nI (Bg S) := r5.2.2.2.1 S r3
  have hd : dk n (cpN fd fe 0 (32 * n)) (cpN fD fS 0 (32 * n)) := dk_cp r6 _ (fun p _ h4 => r7.1 p (by omega))
  by_cases c3 : bk = 0
  · have hex : exRestore bk = some xISE := if_pos c3
    have hth : thUp bk = 1 := if_pos c3
    have h2 := m_X3_restore l dC dI cI cJ h d1 s1 i1 b1 t1 fD fS fI fB fT n R S T bk up wr th Bg (fun j => (cpN fD fS 0 (32 * n) j).toNatClampNeg) r2 (dk_Db hd) (r5.2.2.2.1 0 (Nat.zero_le R)) r5.1
    simp only [hth, il0, il1, il2, il3] at h2
    exact ⟨R, S, T, Bg, ln, fd, fe, fo, fi, fs, fk, ft, fD, fS, fI, fB, fT, wr, up, bk, fL, 1, 0, hR, h_restore_ISE l dC dI cI cJ o qd ad qe ae qo ao r qi ai qs aS qk ak qt aT (n * 32) (n * 32 / 9 + 1) fd fe fo fi fs fk ft (nI n) (nI T) wr up bk (nI R) (nI (Bg R)) (nI S) (nI (Bg S)) ja fL (by omega) (by omega) hlast hex hst, h2, fun z => absurd z (by decide)⟩
  · have hex : exRestore bk = none := if_neg c3
    have hth : thUp bk = 0 := if_neg c3
    obtain ⟨R2, Bg2, ln2, fi2, fs2, fk2, fI2, fB2, w, e1, e2, e3⟩ := slread_eq r1 r2 hN hK hd.1 (dk_Db hd) r5
    have h2 := m_X3_restore l dC dI cI cJ h d1 s1 i1 b1 t1 fD fS fI fB fT n R S T bk up wr th Bg (fun j => (cpN fD fS 0 (32 * n) j).toNatClampNeg) r2 (dk_Db hd) (r5.2.2.2.1 0 (Nat.zero_le R)) r5.1
    simp only [hth, il0] at h2
    rw [e1] at h2
    have h1 := h_restore_ok l dC dI cI cJ o qd ad qe ae qo ao r qi ai qs aS qk ak qt aT (n * 32) (n * 32 / 9 + 1) fd fe fo fi fs fk ft (nI n) (nI T) wr up bk (nI R) (nI (Bg R)) (nI S) (nI (Bg S)) ja fL (by omega) (by omega) hlast hex hst
    have hcp : ca_copy (n * 32) fd (n * 32) fe 0 (nI (n * 32)) = cpN fd fe 0 (32 * n) := (ca_copy_n (a := 0) (b := n * 32) (Nat.zero_le _) (Nat.le_refl _) (Nat.le_refl _) (by omega) (by omega)).trans (by rw [Nat.sub_zero, hN])
    rw [hcp, e2] at h1
    exact ⟨R2, R2, 0, Bg2, ln2, (cpN fd fe 0 (32 * n)), fe, fo, fi2, fs2, fk2, ft, (cpN fD fS 0 (32 * n)), fS, fI2, fB2, fT, (if w = 7 then 0 else w), 1, bk, (vp_updL fL 0 (nI R2).toInt64), 0, (nI R2), ⟨r1, r2, Nat.le_refl R2, by omega, e3, hd, r7, fun j hj => absurd hj (Nat.not_lt_zero j), Or.inr rfl, r10, fun _ => rfl⟩, h1, h2, fun _ => pk_uLs⟩
set_option maxHeartbeats 4000000 in
set_option maxRecDepth 100000 in
theorem st_total (l : Launch) (dC : Nat → ClassId) (dI : Nat → Nat → Nat) (cI cJ : ClassId) (o qd ad qe ae qo ao r qi ai qs aS qk ak qt aT ja h d1 s1 i1 b1 t1 n R S T : Nat) (Bg ln : Nat → Nat) (fd fe fo fi fs fk ft fD fS fI fB fT : Nat → Int32) (wr up bk th : Int32) (fL : Nat → Int64) (hR : Rel n R S T Bg ln fd fe fo fi fs fk fD fS fI fB fT up bk) (hst : l.stackTraces = false) (kind : Int32) (from_ : Int32) (to_ : Int32) : ∃ (R' S' T' : Nat) (Bg' ln' : Nat → Nat) (fd' fe' fo' fi' fs' fk' ft' fD' fS' fI' fB' fT' : Nat → Int32) (wr' up' bk' : Int32) (fL' : Nat → Int64) (c bb : Int32), Rel n R' S' T' Bg' ln' fd' fe' fo' fi' fs' fk' fD' fS' fI' fB' fT' up' bk' ∧ cH l yL_total wsL_total ({ frames := 8, cells := 1, slots := 6, locals := 130 }) dC dI cI cJ (wJ cI cJ o qd ad qe ae qo ao r qi ai qs aS qk ak qt aT ja n R S T Bg fd fe fo fi fs fk ft wr up bk fL) (wJ cI cJ o qd ad qe ae qo ao r qi ai qs aS qk ak qt aT ja n R' S' T' Bg' fd' fe' fo' fi' fs' fk' ft' wr' up' bk' fL') [o, qd, ad, qe, ae, qo, ao, r, qi, ai, qs, aS, qk, ak, qt, aT, ja] [.ref o, .int kind, .int from_, .int to_, .ref ja] (some (.int c)) 1 6 ∧ cW l yX3_total wsX3_total ({ frames := 1, cells := 0, slots := 0, locals := 22 }) dC dI cI cJ (wM cI h d1 s1 i1 b1 t1 n R S T fD fS fI fB fT wr up bk th) (wM cI h d1 s1 i1 b1 t1 n R' S' T' fD' fS' fI' fB' fT' wr' up' bk' c) [h, d1, s1, i1, b1, t1] [.ref h, .int kind, .int from_, .int to_] (some (.int bb)) ∧ (c = 0 → fL' 0 = bb.toInt64) := by
  obtain ⟨hR227, hRn, hSR⟩ := hR.R227
  obtain ⟨r1, r2, r3, r4, r5, r6, r7, r8, r9, r10, r11⟩ := id hR
  have hlast := nlt_i hR227
  have hN : n * 32 = 32 * n := Nat.mul_comm n 32
  have hK : n * 32 / 9 + 1 = 32 * n / 9 + 1 := by rw [hN]
  have hBR : fB R = nI (Bg R) := r5.2.2.2.1 R (Nat.le_refl R)
  have hBS : fB S = nI (Bg S) := r5.2.2.2.1 S r3
  by_cases c1 : mWithin kind 1 5 = 0
  · have hex : exOne (exKind kind) = some xIAE := by unfold exOne exKind; rw [if_pos (show sl_isKind kind = 0 from c1)]; rfl
    have hth : thTotal kind = 1 := if_pos c1
    have h2 := m_X3_total l dC dI cI cJ h d1 s1 i1 b1 t1 fD fS fI fB fT n R S T bk up wr th Bg ln kind from_ to_ r2 hR227 (fun j hj => ⟨r5.2.2.2.1 j (by omega), by have := r5.in hj; omega⟩) (fun j hj => ⟨(r5.2.2.1 j hj).2.2.1, (r5.2.2.1 j hj).2.1⟩)
    simp only [hth, il0, il1, il2, il3] at h2
    exact ⟨R, S, T, Bg, ln, fd, fe, fo, fi, fs, fk, ft, fD, fS, fI, fB, fT, wr, up, bk, fL, 1, 0, hR, h_total_IAE l dC dI cI cJ o qd ad qe ae qo ao r qi ai qs aS qk ak qt aT (n * 32) (n * 32 / 9 + 1) fd fe fo fi fs fk ft (nI n) (nI T) wr up bk (nI R) (nI (Bg R)) (nI S) (nI (Bg S)) kind from_ to_ ja fL (by omega) (by omega) hlast hex hst, h2, fun z => absurd z (by decide)⟩
  · have hex : exOne (exKind kind) = none := by unfold exOne exKind; rw [if_neg (show ¬ sl_isKind kind = 0 from c1)]; rfl
    have hth : thTotal kind = 0 := if_neg c1
    have h2 := m_X3_total l dC dI cI cJ h d1 s1 i1 b1 t1 fD fS fI fB fT n R S T bk up wr th Bg ln kind from_ to_ r2 hR227 (fun j hj => ⟨r5.2.2.2.1 j (by omega), by have := r5.in hj; omega⟩) (fun j hj => ⟨(r5.2.2.1 j hj).2.2.1, (r5.2.2.1 j hj).2.1⟩)
    simp only [hth, il0] at h2
    have h1 := h_total_ok l dC dI cI cJ o qd ad qe ae qo ao r qi ai qs aS qk ak qt aT (n * 32) (n * 32 / 9 + 1) fd fe fo fi fs fk ft (nI n) (nI T) wr up bk (nI R) (nI (Bg R)) (nI S) (nI (Bg S)) kind from_ to_ ja fL (by omega) (by omega) hlast hex hst
    rw [total_eq r2 hN hK r5] at h1
    exact ⟨R, S, T, Bg, ln, fd, fe, fo, fi, fs, fk, ft, fD, fS, fI, fB, fT, wr, up, bk, (vp_updL fL 0 (toN fI Bg ln kind from_ to_ R).toInt64), 0, (toN fI Bg ln kind from_ to_ R), hR, h1, h2, fun _ => pk_uLs⟩
set_option maxHeartbeats 4000000 in
set_option maxRecDepth 100000 in
theorem st_wrong (l : Launch) (dC : Nat → ClassId) (dI : Nat → Nat → Nat) (cI cJ : ClassId) (o qd ad qe ae qo ao r qi ai qs aS qk ak qt aT ja h d1 s1 i1 b1 t1 n R S T : Nat) (Bg ln : Nat → Nat) (fd fe fo fi fs fk ft fD fS fI fB fT : Nat → Int32) (wr up bk th : Int32) (fL : Nat → Int64) (hR : Rel n R S T Bg ln fd fe fo fi fs fk fD fS fI fB fT up bk)  : ∃ bb : Int32, cP l yX2_wrong wsX2_wrong ({ frames := 0, cells := 0, slots := 0, locals := 0 }) dC dI cI cJ (wX cI o qd ad qe ae qo ao r qi ai qs aS qk ak qt aT n R S T Bg fd fe fo fi fs fk ft wr up bk) [.ref o] bb ∧ cW l yX3_wrong wsX3_wrong ({ frames := 0, cells := 0, slots := 0, locals := 0 }) dC dI cI cJ (wM cI h d1 s1 i1 b1 t1 n R S T fD fS fI fB fT wr up bk th) (wM cI h d1 s1 i1 b1 t1 n R S T fD fS fI fB fT wr up bk 0) [h, d1, s1, i1, b1, t1] [.ref h] (some (.int bb)) := by
  exact ⟨wr, m_X2_wrong l dC dI cI cJ o qd ad qe ae qo ao r qi ai qs aS qk ak qt aT (n * 32) (n * 32 / 9 + 1) fd fe fo fi fs fk ft (nI n) (nI T) wr up bk (nI R) (nI (Bg R)) (nI S) (nI (Bg S)), m_X3_wrong l dC dI cI cJ h d1 s1 i1 b1 t1 fD fS fI fB fT n R S T bk up wr th⟩
set_option maxHeartbeats 4000000 in
set_option maxRecDepth 100000 in
theorem st_count (l : Launch) (dC : Nat → ClassId) (dI : Nat → Nat → Nat) (cI cJ : ClassId) (o qd ad qe ae qo ao r qi ai qs aS qk ak qt aT ja h d1 s1 i1 b1 t1 n R S T : Nat) (Bg ln : Nat → Nat) (fd fe fo fi fs fk ft fD fS fI fB fT : Nat → Int32) (wr up bk th : Int32) (fL : Nat → Int64) (hR : Rel n R S T Bg ln fd fe fo fi fs fk fD fS fI fB fT up bk) (what : Int32) : ∃ bb : Int32, cP l yX2_count wsX2_count ({ frames := 1, cells := 0, slots := 0, locals := 21 }) dC dI cI cJ (wX cI o qd ad qe ae qo ao r qi ai qs aS qk ak qt aT n R S T Bg fd fe fo fi fs fk ft wr up bk) [.ref o, .int what] bb ∧ cW l yX3_count wsX3_count ({ frames := 2, cells := 0, slots := 0, locals := 45 }) dC dI cI cJ (wM cI h d1 s1 i1 b1 t1 n R S T fD fS fI fB fT wr up bk th) (wM cI h d1 s1 i1 b1 t1 n R S T fD fS fI fB fT wr up bk 0) [h, d1, s1, i1, b1, t1] [.ref h, .int what] (some (.int bb)) := by
  obtain ⟨hR227, hRn, hSR⟩ := hR.R227
  obtain ⟨r1, r2, r3, r4, r5, r6, r7, r8, r9, r10, r11⟩ := id hR
  have hBR : fB R = nI (Bg R) := r5.2.2.2.1 R (Nat.le_refl R)
  have hBS : fB S = nI (Bg S) := r5.2.2.2.1 S r3
  have h1 := m_X2_count l dC dI cI cJ o qd ad qe ae qo ao r qi ai qs aS qk ak qt aT (n * 32) (n * 32 / 9 + 1) fd fe fo fi fs fk ft (nI n) (nI T) wr up bk (nI R) (nI (Bg R)) (nI S) (nI (Bg S)) what (by omega) (by omega)
  have hc : sl_count fk (nI n) (nI T) up (nI R) (nI (Bg R)) (nI S) (nI (Bg S)) what = ctN fI Bg n R S T (Bg R) (Bg S) up what := by
    unfold sl_count ctN
    rw [pk_sub hSR, Nat.mul_div_cancel_left n (by decide), show ca_at 6 fk 5 = nI (cN fI Bg 5 R) from (ca_at_n (i := 5) (by omega) (by omega)).trans (r5.2.2.2.2.2.2 5 (by omega) (by omega))]
  rw [hc] at h1
  exact ⟨ctN fI Bg n R S T (Bg R) (Bg S) up what, h1, m_X3_count l dC dI cI cJ h d1 s1 i1 b1 t1 fD fS fI fB fT n R S T bk up wr th (Bg R) (Bg S) Bg what r2 hR227 r3 hBR hBS hRn hSR (fun j hj => ⟨r5.2.2.2.1 j (by omega), by have := r5.in hj; omega⟩)⟩
