/-! ONE CALL OF THE LAW: the class's helper and the reference -/
abbrev wX (cI : ClassId) (o qd ad qe ae qo ao r qi ai qs aS qk ak qt aT n R S T : Nat) (Bg : Nat → Nat) (fd fe fo fi fs fk ft : Nat → Int32) (wr up bk : Int32) : va_W := [(o, .inr (3, [.int (nI n), .ref qd, .ref qe, .ref qo, .ref r, .int (nI T), .int wr, .int up, .int bk])), (qd, .inr (1, [.ref ad])), (ad, .inl (cI, n * 32, .inl fd)), (qe, .inr (1, [.ref ae])), (ae, .inl (cI, n * 32, .inl fe)), (qo, .inr (1, [.ref ao])), (ao, .inl (cI, 20, .inl fo)), (r, .inr (2, [.ref qi, .ref qs, .ref qk, .ref qt, .int (nI R), .int (nI (Bg R)), .int (nI S), .int (nI (Bg S))])), (qi, .inr (1, [.ref ai])), (ai, .inl (cI, n * 32, .inl fi)), (qs, .inr (1, [.ref aS])), (aS, .inl (cI, n * 32 / 9 + 1, .inl fs)), (qk, .inr (1, [.ref ak])), (ak, .inl (cI, 6, .inl fk)), (qt, .inr (1, [.ref aT])), (aT, .inl (cI, 8, .inl ft))]
abbrev wJ (cI cJ : ClassId) (o qd ad qe ae qo ao r qi ai qs aS qk ak qt aT ja n R S T : Nat) (Bg : Nat → Nat) (fd fe fo fi fs fk ft : Nat → Int32) (wr up bk : Int32) (fL : Nat → Int64) : va_W := [(o, .inr (3, [.int (nI n), .ref qd, .ref qe, .ref qo, .ref r, .int (nI T), .int wr, .int up, .int bk])), (qd, .inr (1, [.ref ad])), (ad, .inl (cI, n * 32, .inl fd)), (qe, .inr (1, [.ref ae])), (ae, .inl (cI, n * 32, .inl fe)), (qo, .inr (1, [.ref ao])), (ao, .inl (cI, 20, .inl fo)), (r, .inr (2, [.ref qi, .ref qs, .ref qk, .ref qt, .int (nI R), .int (nI (Bg R)), .int (nI S), .int (nI (Bg S))])), (qi, .inr (1, [.ref ai])), (ai, .inl (cI, n * 32, .inl fi)), (qs, .inr (1, [.ref aS])), (aS, .inl (cI, n * 32 / 9 + 1, .inl fs)), (qk, .inr (1, [.ref ak])), (ak, .inl (cI, 6, .inl fk)), (qt, .inr (1, [.ref aT])), (aT, .inl (cI, 8, .inl ft)), (ja, .inl (cJ, 1, .inr (.inl fL)))]
abbrev wM (cI : ClassId) (h d1 s1 i1 b1 t1 n R S T : Nat) (fD fS fI fB fT : Nat → Int32) (wr up bk th : Int32) : va_W := [(h, .inr (4, [.int (nI (32 * n)), .ref d1, .ref s1, .int bk, .int up, .ref i1, .ref b1, .int (nI R), .int (nI S), .int wr, .int th, .ref t1, .int (nI T)])), (d1, .inl (cI, 2048, .inl fD)), (s1, .inl (cI, 2048, .inl fS)), (i1, .inl (cI, 2080, .inl fI)), (b1, .inl (cI, 240, .inl fB)), (t1, .inl (cI, 20, .inl fT))]
def Rel (n R S T : Nat) (Bg ln : Nat → Nat) (fd fe fo fi fs fk fD fS fI fB fT : Nat → Int32) (up bk : Int32) : Prop :=
  1 ≤ n ∧ n ≤ 64 ∧ S ≤ R ∧ T ≤ 20 ∧ Core n R Bg ln fi fs fk fI fB ∧ dk n fd fD ∧ dk n fe fS ∧ (∀ j, j < T → fo j = fT j ∧ by8 (fT j)) ∧ (up = 0 ∨ up = 1) ∧ (bk = 0 ∨ bk = 1) ∧ (up = 0 → R = S)
theorem or_no {a : Option String} : (none : Option String).or a = a := rfl
theorem or_so {x : String} {a : Option String} : (some x).or a = some x := rfl
theorem nlt_i {n : Nat} (h : n ≤ 227) : nI n < 2147483647 := nI_lt (b := 2147483647) (by omega) (by omega)
theorem kd_cases (k : Int32) : (sl_isKind k = 0 ∧ mWithin k 1 4 = 0 ∧ ¬ k = 5) ∨ ∃ q : Nat, 1 ≤ q ∧ q ≤ 5 ∧ k = nI q := by
  by_cases c1 : k < 1
  · refine Or.inl ⟨if_pos c1, if_pos c1, fun z => ?_⟩
    subst z
    exact absurd c1 (by decide)
  · by_cases c2 : 5 < k
    · refine Or.inl ⟨?_, ?_, fun z => ?_⟩
      · show (if k < 1 then (0 : Int32) else if 5 < k then 0 else 1) = 0
        rw [if_neg c1, if_pos c2]
      · show (if k < 1 then (0 : Int32) else if 4 < k then 0 else 1) = 0
        rw [if_neg c1, if_pos (Int32.lt_trans (by decide) c2)]
      · subst z
        exact absurd c2 (by decide)
    · obtain ⟨q, hq, rfl⟩ := nI_of2 (x := k) (M := 5) (n := 5) (by decide) (fun z => c1 (Int32.lt_trans z (by decide))) (Int32.not_lt.mp c2)
      refine Or.inr ⟨q, ?_, hq, rfl⟩
      have := fun z => c1 ((nI_ltI (a := q) (b := 1) (by omega) (by omega)).mpr z)
      exact Nat.le_of_not_lt this
theorem kd_is {q : Nat} (h1 : 1 ≤ q) (h5 : q ≤ 5) : ¬ sl_isKind (nI q) = 0 := fun z => absurd ⟨h1, h5⟩ ((within_n (x := nI q) (lo := 1) (hi := 5) rfl (by omega) (by omega) (by omega)).mp z)
theorem Rel.R227 {n R S T : Nat} {Bg ln : Nat → Nat} {fd fe fo fi fs fk fD fS fI fB fT : Nat → Int32} {up bk : Int32} (hR : Rel n R S T Bg ln fd fe fo fi fs fk fD fS fI fB fT up bk) : R ≤ 227 ∧ Bg R ≤ 32 * n ∧ Bg S ≤ Bg R := by
  obtain ⟨h1, h2, h3, h4, h5, -⟩ := hR
  have a1 := (h5.le (Nat.le_refl R)).2
  have a2 := (h5.le h3).1
  have a3 := h5.2.1
  exact ⟨by omega, a3, by omega⟩
set_option maxHeartbeats 4000000 in
set_option maxRecDepth 100000 in
theorem st_add (l : Launch) (dC : Nat → ClassId) (dI : Nat → Nat → Nat) (cI cJ : ClassId) (o qd ad qe ae qo ao r qi ai qs aS qk ak qt aT ja h d1 s1 i1 b1 t1 n R S T : Nat) (Bg ln : Nat → Nat) (fd fe fo fi fs fk ft fD fS fI fB fT : Nat → Int32) (wr up bk th : Int32) (fL : Nat → Int64) (hR : Rel n R S T Bg ln fd fe fo fi fs fk fD fS fI fB fT up bk) (hst : l.stackTraces = false) (b : Int32) : ∃ (R' S' T' : Nat) (Bg' ln' : Nat → Nat) (fd' fe' fo' fi' fs' fk' ft' fD' fS' fI' fB' fT' : Nat → Int32) (wr' up' bk' : Int32) (fL' : Nat → Int64) (c bb : Int32), Rel n R' S' T' Bg' ln' fd' fe' fo' fi' fs' fk' fD' fS' fI' fB' fT' up' bk' ∧ cH l yL_add wsL_add ({ frames := 8, cells := 2, slots := 12, locals := 123 }) dC dI cI cJ (wJ cI cJ o qd ad qe ae qo ao r qi ai qs aS qk ak qt aT ja n R S T Bg fd fe fo fi fs fk ft wr up bk fL) (wJ cI cJ o qd ad qe ae qo ao r qi ai qs aS qk ak qt aT ja n R' S' T' Bg' fd' fe' fo' fi' fs' fk' ft' wr' up' bk' fL') [o, qd, ad, qe, ae, qo, ao, r, qi, ai, qs, aS, qk, ak, qt, aT, ja] [.ref o, .int b, .ref ja] (some (.int c)) 2 12 ∧ cW l yX3_add wsX3_add ({ frames := 1, cells := 0, slots := 0, locals := 22 }) dC dI cI cJ (wM cI h d1 s1 i1 b1 t1 n R S T fD fS fI fB fT wr up bk th) (wM cI h d1 s1 i1 b1 t1 n R' S' T' fD' fS' fI' fB' fT' wr' up' bk' c) [h, d1, s1, i1, b1, t1] [.ref h, .int b] (some (.int bb)) ∧ (c = 0 → fL' 0 = bb.toInt64) := by
  obtain ⟨hR227, hRn, hSR⟩ := hR.R227
  obtain ⟨r1, r2, r3, r4, r5, r6, r7, r8, r9, r10, r11⟩ := id hR
  have hlast := nlt_i hR227
  have hN : n * 32 = 32 * n := Nat.mul_comm n 32
  have hK : n * 32 / 9 + 1 = 32 * n / 9 + 1 := by rw [hN]
  have hBR : fB R = nI (Bg R) := r5.2.2.2.1 R (Nat.le_refl R)
  have hBS : fB S = nI (Bg S) := r5.2.2.2.1 S r3
  by_cases c1 : b < 0
  · have hex : exAdd up (nI T) b = some xIAE := if_pos c1
    have hth : thAdd up T b = 1 := if_pos (if_pos c1)
    have h2 := m_X3_add l dC dI cI cJ h d1 s1 i1 b1 t1 fD fS fI fB fT n R S T bk up wr th b r4
    simp only [hth, il0, il1, il2, il3] at h2
    exact ⟨R, S, T, Bg, ln, fd, fe, fo, fi, fs, fk, ft, fD, fS, fI, fB, fT, wr, up, bk, fL, 1, 0, hR, h_add_IAE l dC dI cI cJ o qd ad qe ae qo ao r qi ai qs aS qk ak qt aT (n * 32) (n * 32 / 9 + 1) fd fe fo fi fs fk ft (nI n) (nI T) wr up bk (nI R) (nI (Bg R)) (nI S) (nI (Bg S)) b ja fL (by omega) (by omega) hex hst, h2, fun z => absurd z (by decide)⟩
  · by_cases c2 : b ≤ 255
    · have hw : ¬ mWithin b 0 255 = 0 := by unfold mWithin; rw [if_neg c1, if_neg (Int32.not_lt.mpr c2)]; decide
      by_cases c3 : up = 0
      · have hex : exAdd up (nI T) b = some xISE := by unfold exAdd exDown; rw [if_neg c1, if_pos c2, if_pos c3]; rfl
        have hth : thAdd up T b = 2 := by unfold thAdd; rw [if_neg hw, if_pos c3]
        have h2 := m_X3_add l dC dI cI cJ h d1 s1 i1 b1 t1 fD fS fI fB fT n R S T bk up wr th b r4
        simp only [hth, il0, il1, il2, il3] at h2
        exact ⟨R, S, T, Bg, ln, fd, fe, fo, fi, fs, fk, ft, fD, fS, fI, fB, fT, wr, up, bk, fL, 2, 0, hR, h_add_ISE l dC dI cI cJ o qd ad qe ae qo ao r qi ai qs aS qk ak qt aT (n * 32) (n * 32 / 9 + 1) fd fe fo fi fs fk ft (nI n) (nI T) wr up bk (nI R) (nI (Bg R)) (nI S) (nI (Bg S)) b ja fL (by omega) (by omega) hex hst, h2, fun z => absurd z (by decide)⟩
      · by_cases c4 : T = 20
        · have hex : exAdd up (nI T) b = some xUOE := by unfold exAdd exDown; rw [if_neg c1, if_pos c2, if_neg c3, c4]; rfl
          have hth : thAdd up T b = 3 := by unfold thAdd; rw [if_neg hw, if_neg c3, c4]; rfl
          have h2 := m_X3_add l dC dI cI cJ h d1 s1 i1 b1 t1 fD fS fI fB fT n R S T bk up wr th b r4
          simp only [hth, il0, il1, il2, il3] at h2
          exact ⟨R, S, T, Bg, ln, fd, fe, fo, fi, fs, fk, ft, fD, fS, fI, fB, fT, wr, up, bk, fL, 3, 0, hR, h_add_UOE l dC dI cI cJ o qd ad qe ae qo ao r qi ai qs aS qk ak qt aT (n * 32) (n * 32 / 9 + 1) fd fe fo fi fs fk ft (nI n) (nI T) wr up bk (nI R) (nI (Bg R)) (nI S) (nI (Bg S)) b ja fL (by omega) (by omega) hex hst, h2, fun z => absurd z (by decide)⟩
        · have hex : exAdd up (nI T) b = none := by unfold exAdd exDown; rw [if_neg c1, if_pos c2, if_neg c3, or_no, if_pos (show nI T < 20 from nI_lt (b := 20) (by omega) (by omega))]
          have hth : thAdd up T b = 0 := by unfold thAdd; rw [if_neg hw, if_neg c3, if_neg (show ¬ nI T = 20 from fun q => c4 ((nI_eq (b := 20) (by omega) (by omega)).mp q))]
          have h2 := m_X3_add l dC dI cI cJ h d1 s1 i1 b1 t1 fD fS fI fB fT n R S T bk up wr th b r4
          simp only [hth, il0] at h2
          have h1 := h_add_ok l dC dI cI cJ o qd ad qe ae qo ao r qi ai qs aS qk ak qt aT (n * 32) (n * 32 / 9 + 1) fd fe fo fi fs fk ft (nI n) (nI T) wr up bk (nI R) (nI (Bg R)) (nI S) (nI (Bg S)) b ja fL (by omega) (by omega) hex hst
          rw [nI_1, ca_set_n (by omega) (by omega)] at h1
          refine ⟨R, S, (T + 1), Bg, ln, fd, fe, (upd fo T b), fi, fs, fk, ft, fD, fS, fI, fB, (upd fT T b), wr, up, bk, (vp_updL fL 0 (nI (T + 1)).toInt64), 0, nI (T + 1), ⟨r1, r2, r3, by omega, r5, r6, r7, fun j hj => ?_, r9, r10, r11⟩, h1, h2, fun _ => pk_uLs⟩
          by_cases c5 : j = T
          · subst c5
            rw [pk_us, pk_us]
            exact ⟨rfl, by8_of c1 c2⟩
          · rw [pk_un c5, pk_un c5]
            exact r8 j (by omega)
    · have hex : exAdd up (nI T) b = some xIAE := by unfold exAdd; rw [if_neg c1, if_neg c2]
      have hth : thAdd up T b = 1 := by unfold thAdd mWithin; rw [if_neg c1, if_pos (Int32.not_le.mp c2)]; rfl
      have h2 := m_X3_add l dC dI cI cJ h d1 s1 i1 b1 t1 fD fS fI fB fT n R S T bk up wr th b r4
      simp only [hth, il0, il1, il2, il3] at h2
      exact ⟨R, S, T, Bg, ln, fd, fe, fo, fi, fs, fk, ft, fD, fS, fI, fB, fT, wr, up, bk, fL, 1, 0, hR, h_add_IAE l dC dI cI cJ o qd ad qe ae qo ao r qi ai qs aS qk ak qt aT (n * 32) (n * 32 / 9 + 1) fd fe fo fi fs fk ft (nI n) (nI T) wr up bk (nI R) (nI (Bg R)) (nI S) (nI (Bg S)) b ja fL (by omega) (by omega) hex hst, h2, fun z => absurd z (by decide)⟩
set_option maxHeartbeats 4000000 in
set_option maxRecDepth 100000 in
theorem st_end (l : Launch) (dC : Nat → ClassId) (dI : Nat → Nat → Nat) (cI cJ : ClassId) (o qd ad qe ae qo ao r qi ai qs aS qk ak qt aT ja h d1 s1 i1 b1 t1 n R S T : Nat) (Bg ln : Nat → Nat) (fd fe fo fi fs fk ft fD fS fI fB fT : Nat → Int32) (wr up bk th : Int32) (fL : Nat → Int64) (hR : Rel n R S T Bg ln fd fe fo fi fs fk fD fS fI fB fT up bk) (hst : l.stackTraces = false) (kind : Int32) : ∃ (R' S' T' : Nat) (Bg' ln' : Nat → Nat) (fd' fe' fo' fi' fs' fk' ft' fD' fS' fI' fB' fT' : Nat → Int32) (wr' up' bk' : Int32) (fL' : Nat → Int64) (c bb : Int32), Rel n R' S' T' Bg' ln' fd' fe' fo' fi' fs' fk' fD' fS' fI' fB' fT' up' bk' ∧ cH l yL_end wsL_end ({ frames := 8, cells := 3, slots := 18, locals := 125 }) dC dI cI cJ (wJ cI cJ o qd ad qe ae qo ao r qi ai qs aS qk ak qt aT ja n R S T Bg fd fe fo fi fs fk ft wr up bk fL) (wJ cI cJ o qd ad qe ae qo ao r qi ai qs aS qk ak qt aT ja n R' S' T' Bg' fd' fe' fo' fi' fs' fk' ft' wr' up' bk' fL') [o, qd, ad, qe, ae, qo, ao, r, qi, ai, qs, aS, qk, ak, qt, aT, ja] [.ref o, .int kind, .ref ja] (some (.int c)) 3 18 ∧ cW l yX3_end wsX3_end ({ frames := 2, cells := 0, slots := 0, locals := 47 }) dC dI cI cJ (wM cI h d1 s1 i1 b1 t1 n R S T fD fS fI fB fT wr up bk th) (wM cI h d1 s1 i1 b1 t1 n R' S' T' fD' fS' fI' fB' fT' wr' up' bk' c) [h, d1, s1, i1, b1, t1] [.ref h, .int kind] (some (.int bb)) ∧ (c = 0 → fL' 0 = bb.toInt64) := by
  obtain ⟨hR227, hRn, hSR⟩ := hR.R227
  obtain ⟨r1, r2, r3, r4, r5, r6, r7, r8, r9, r10, r11⟩ := id hR
  have hlast := nlt_i hR227
  have hN : n * 32 = 32 * n := Nat.mul_comm n 32
  have hK : n * 32 / 9 + 1 = 32 * n / 9 + 1 := by rw [hN]
  have hBR : fB R = nI (Bg R) := r5.2.2.2.1 R (Nat.le_refl R)
  have hBS : fB S = nI (Bg S) := r5.2.2.2.1 S r3
  rcases kd_cases kind with ⟨k1, k2, k3⟩ | ⟨q, hq1, hq5, rfl⟩
  · have hex : exEnd (n * 32) up (nI (Bg R)) (nI T) kind = some xIAE := by unfold exEnd exKind; rw [if_neg k3, if_pos k1]; rfl
    have hth : thEnd n (Bg R) T up kind = 1 := if_pos k2
    have h2 := m_X3_end l dC dI cI cJ h d1 s1 i1 b1 t1 fD fS fI fB fT n R S T bk up wr th (Bg R) kind r2 hR227 hBR hRn r4
    simp only [hth, il0, il1, il2, il3] at h2
    exact ⟨R, S, T, Bg, ln, fd, fe, fo, fi, fs, fk, ft, fD, fS, fI, fB, fT, wr, up, bk, fL, 1, 0, hR, h_end_IAE l dC dI cI cJ o qd ad qe ae qo ao r qi ai qs aS qk ak qt aT (n * 32) (n * 32 / 9 + 1) fd fe fo fi fs fk ft (nI n) (nI T) wr up bk (nI R) (nI (Bg R)) (nI S) (nI (Bg S)) kind ja fL (by omega) (by omega) hex hst, h2, fun z => absurd z (by decide)⟩
  · by_cases c0 : q = 5
    · subst c0
      have hex : exEnd (n * 32) up (nI (Bg R)) (nI T) (nI 5) = some xIAE := if_pos rfl
      have hth : thEnd n (Bg R) T up (nI 5) = 1 := if_pos (by decide)
      have h2 := m_X3_end l dC dI cI cJ h d1 s1 i1 b1 t1 fD fS fI fB fT n R S T bk up wr th (Bg R) (nI 5) r2 hR227 hBR hRn r4
      simp only [hth, il0, il1, il2, il3] at h2
      exact ⟨R, S, T, Bg, ln, fd, fe, fo, fi, fs, fk, ft, fD, fS, fI, fB, fT, wr, up, bk, fL, 1, 0, hR, h_end_IAE l dC dI cI cJ o qd ad qe ae qo ao r qi ai qs aS qk ak qt aT (n * 32) (n * 32 / 9 + 1) fd fe fo fi fs fk ft (nI n) (nI T) wr up bk (nI R) (nI (Bg R)) (nI S) (nI (Bg S)) (nI 5) ja fL (by omega) (by omega) hex hst, h2, fun z => absurd z (by decide)⟩
    · have k5 : ¬ nI q = 5 := fun z => c0 ((nI_eq (b := 5) (by omega) (by omega)).mp z)
      have hw : ¬ mWithin (nI q) 1 4 = 0 := fun z => absurd ⟨hq1, (by omega : q ≤ 4)⟩ ((within_n (x := nI q) (lo := 1) (hi := 4) rfl (by omega) (by omega) (by omega)).mp z)
      by_cases c3 : up = 0
      · have hex : exEnd (n * 32) up (nI (Bg R)) (nI T) (nI q) = some xISE := by unfold exEnd exKind exDown; rw [if_neg k5, if_neg (kd_is hq1 hq5), if_pos c3]; rfl
        have hth : thEnd n (Bg R) T up (nI q) = 2 := by unfold thEnd; rw [if_neg hw, if_pos c3]
        have h2 := m_X3_end l dC dI cI cJ h d1 s1 i1 b1 t1 fD fS fI fB fT n R S T bk up wr th (Bg R) (nI q) r2 hR227 hBR hRn r4
        simp only [hth, il0, il1, il2, il3] at h2
        exact ⟨R, S, T, Bg, ln, fd, fe, fo, fi, fs, fk, ft, fD, fS, fI, fB, fT, wr, up, bk, fL, 2, 0, hR, h_end_ISE l dC dI cI cJ o qd ad qe ae qo ao r qi ai qs aS qk ak qt aT (n * 32) (n * 32 / 9 + 1) fd fe fo fi fs fk ft (nI n) (nI T) wr up bk (nI R) (nI (Bg R)) (nI S) (nI (Bg S)) (nI q) ja fL (by omega) (by omega) hex hst, h2, fun z => absurd z (by decide)⟩
      · have hle : nI (Bg R) + 9 + nI T = nI (Bg R + 9 + T) := by rw [show nI (Bg R) + 9 = nI (Bg R + 9) from nI_add _ 9, nI_add]
        by_cases c4 : Bg R + 9 + T ≤ 32 * n
        · have hex : exEnd (n * 32) up (nI (Bg R)) (nI T) (nI q) = none := by unfold exEnd exKind exDown exFull; rw [if_neg k5, if_neg (kd_is hq1 hq5), if_neg c3, hle, if_pos (nI_le (by omega) (by omega))]; rfl
          have hth : thEnd n (Bg R) T up (nI q) = 0 := by unfold thEnd; rw [if_neg hw, if_neg c3, if_pos c4]; rfl
          have h2 := m_X3_end l dC dI cI cJ h d1 s1 i1 b1 t1 fD fS fI fB fT n R S T bk up wr th (Bg R) (nI q) r2 hR227 hBR hRn r4
          simp only [hth, il0] at h2
          have h1 := h_end_ok l dC dI cI cJ o qd ad qe ae qo ao r qi ai qs aS qk ak qt aT (n * 32) (n * 32 / 9 + 1) fd fe fo fi fs fk ft (nI n) (nI T) wr up bk (nI R) (nI (Bg R)) (nI S) (nI (Bg S)) (nI q) ja fL (by omega) (by omega) hex hst
          obtain ⟨hC, hU⟩ := core_push (m := T) (k := q) (fi' := enI (enF fi fo (Bg R) R T (nI q)) (Bg R) (Bg R + 5 + T)) (fI' := enI (enF fI fT (Bg R) R T (nI q)) (Bg R) (Bg R + 5 + T)) r2 hN hK r5 hq1 hq5 r4 c4 en_kp (show ag (Bg R + 9 + T) _ _ by rw [show Bg R + 9 + T = Bg R + 5 + T + 4 by omega]; exact ag_en (ag_bd (ag_hd r5.2.2.2.2.2.1 (by omega) (by8_n (by omega)) (by8_n (by omega))) T r8) (by omega)) en_kd en_ln
          rw [rw_image_n (by omega) r4 (by omega) (by omega) (by omega), hU, nI_1] at h1
          refine ⟨(R + 1), S, 0, (updN Bg (R + 1) (Bg R + 9 + T)), (updN ln R T), fd, fe, fo, (enI (enF fi fo (Bg R) R T (nI q)) (Bg R) (Bg R + 5 + T)), (rw_enS (n * 32 / 9 + 1) fs (nI R) (nI (Bg R))), (rw_enK (n * 32) (n * 32 / 9 + 1) (enI (enF fi fo (Bg R) R T (nI q)) (Bg R) (Bg R + 5 + T)) fs fk (nI R) (nI (Bg R))), ft, fD, fS, (enI (enF fI fT (Bg R) R T (nI q)) (Bg R) (Bg R + 5 + T)), (upd fB (R + 1) (nI (Bg R + 9 + T))), fT, wr, up, bk, (vp_updL fL 0 (nI (R + 1)).toInt64), 0, nI (R + 1), ⟨r1, r2, by omega, by omega, hC, r6, r7, fun j hj => absurd hj (Nat.not_lt_zero j), r9, r10, fun z => absurd z c3⟩, ?_, ?_, fun _ => pk_uLs⟩
          · unfold wJ; rw [uN_s, uN_n (show ¬ S = R + 1 by omega)]
            exact h1
          · rw [show Bg R + 9 + T = Bg R + 5 + T + 4 by omega]
            exact h2
        · have hex : exEnd (n * 32) up (nI (Bg R)) (nI T) (nI q) = some xUOE := by unfold exEnd exKind exDown exFull; rw [if_neg k5, if_neg (kd_is hq1 hq5), if_neg c3, hle, if_neg (nI_ge (by omega) (by omega))]; rfl
          have hth : thEnd n (Bg R) T up (nI q) = 3 := by unfold thEnd; rw [if_neg hw, if_neg c3, if_neg c4]; rfl
          have h2 := m_X3_end l dC dI cI cJ h d1 s1 i1 b1 t1 fD fS fI fB fT n R S T bk up wr th (Bg R) (nI q) r2 hR227 hBR hRn r4
          simp only [hth, il0, il1, il2, il3] at h2
          exact ⟨R, S, T, Bg, ln, fd, fe, fo, fi, fs, fk, ft, fD, fS, fI, fB, fT, wr, up, bk, fL, 3, 0, hR, h_end_UOE l dC dI cI cJ o qd ad qe ae qo ao r qi ai qs aS qk ak qt aT (n * 32) (n * 32 / 9 + 1) fd fe fo fi fs fk ft (nI n) (nI T) wr up bk (nI R) (nI (Bg R)) (nI S) (nI (Bg S)) (nI q) ja fL (by omega) (by omega) hex hst, h2, fun z => absurd z (by decide)⟩
set_option maxHeartbeats 4000000 in
set_option maxRecDepth 100000 in
theorem st_whole (l : Launch) (dC : Nat → ClassId) (dI : Nat → Nat → Nat) (cI cJ : ClassId) (o qd ad qe ae qo ao r qi ai qs aS qk ak qt aT ja h d1 s1 i1 b1 t1 n R S T : Nat) (Bg ln : Nat → Nat) (fd fe fo fi fs fk ft fD fS fI fB fT : Nat → Int32) (wr up bk th : Int32) (fL : Nat → Int64) (hR : Rel n R S T Bg ln fd fe fo fi fs fk fD fS fI fB fT up bk) (hst : l.stackTraces = false)  : ∃ (R' S' T' : Nat) (Bg' ln' : Nat → Nat) (fd' fe' fo' fi' fs' fk' ft' fD' fS' fI' fB' fT' : Nat → Int32) (wr' up' bk' : Int32) (fL' : Nat → Int64) (c bb : Int32), Rel n R' S' T' Bg' ln' fd' fe' fo' fi' fs' fk' fD' fS' fI' fB' fT' up' bk' ∧ cH l yL_whole wsL_whole ({ frames := 8, cells := 2, slots := 12, locals := 127 }) dC dI cI cJ (wJ cI cJ o qd ad qe ae qo ao r qi ai qs aS qk ak qt aT ja n R S T Bg fd fe fo fi fs fk ft wr up bk fL) (wJ cI cJ o qd ad qe ae qo ao r qi ai qs aS qk ak qt aT ja n R' S' T' Bg' fd' fe' fo' fi' fs' fk' ft' wr' up' bk' fL') [o, qd, ad, qe, ae, qo, ao, r, qi, ai, qs, aS, qk, ak, qt, aT, ja] [.ref o, .ref ja] (some (.int c)) 2 12 ∧ cW l yX3_whole wsX3_whole ({ frames := 2, cells := 0, slots := 0, locals := 47 }) dC dI cI cJ (wM cI h d1 s1 i1 b1 t1 n R S T fD fS fI fB fT wr up bk th) (wM cI h d1 s1 i1 b1 t1 n R' S' T' fD' fS' fI' fB' fT' wr' up' bk' c) [h, d1, s1, i1, b1, t1] [.ref h] (some (.int bb)) ∧ (c = 0 → fL' 0 = bb.toInt64) := by
  obtain ⟨hR227, hRn, hSR⟩ := hR.R227
  obtain ⟨r1, r2, r3, r4, r5, r6, r7, r8, r9, r10, r11⟩ := id hR
  have hlast := nlt_i hR227
  have hN : n * 32 = 32 * n := Nat.mul_comm n 32
  have hK : n * 32 / 9 + 1 = 32 * n / 9 + 1 := by rw [hN]
  have hBR : fB R = nI (Bg R) := r5.2.2.2.1 R (Nat.le_refl R)
  have hBS : fB S = nI (Bg S) := r5.2.2.2.1 S r3
  by_cases c3 : up = 0
  · have hex : exWhole (n * 32) up (nI (Bg R)) = some xISE := by unfold exWhole exDown; rw [if_pos c3]; rfl
    have hth : thWhole n (Bg R) up = 1 := if_pos c3
    have h2 := m_X3_whole l dC dI cI cJ h d1 s1 i1 b1 t1 fD fS fI fB fT n R S T bk up wr th (Bg R) Bg r2 hR227 hBR hRn (fun j hj => ⟨r5.2.2.2.1 j (by omega), by have := r5.in hj; omega⟩)
    simp only [hth, il0, il1, il2, il3] at h2
    exact ⟨R, S, T, Bg, ln, fd, fe, fo, fi, fs, fk, ft, fD, fS, fI, fB, fT, wr, up, bk, fL, 1, 0, hR, h_whole_ISE l dC dI cI cJ o qd ad qe ae qo ao r qi ai qs aS qk ak qt aT (n * 32) (n * 32 / 9 + 1) fd fe fo fi fs fk ft (nI n) (nI T) wr up bk (nI R) (nI (Bg R)) (nI S) (nI (Bg S)) ja fL (by omega) (by omega) hex hst, h2, fun z => absurd z (by decide)⟩
  · have hle : nI (Bg R) + 9 + 8 = nI (Bg R + 9 + 8) := by rw [show nI (Bg R) + 9 = nI (Bg R + 9) from nI_add _ 9, show nI (Bg R + 9) + 8 = nI (Bg R + 9 + 8) from nI_add _ 8]
    by_cases c4 : Bg R + 9 + 8 ≤ 32 * n
    · have hex : exWhole (n * 32) up (nI (Bg R)) = none := by unfold exWhole exDown exFull; rw [if_neg c3, hle, if_pos (nI_le (by omega) (by omega))]; rfl
      have hth : thWhole n (Bg R) up = 0 := by unfold thWhole; rw [if_neg c3, if_pos c4]; rfl
      have h2 := m_X3_whole l dC dI cI cJ h d1 s1 i1 b1 t1 fD fS fI fB fT n R S T bk up wr th (Bg R) Bg r2 hR227 hBR hRn (fun j hj => ⟨r5.2.2.2.1 j (by omega), by have := r5.in hj; omega⟩)
      simp only [hth, il0] at h2
      have h1 := h_whole_ok l dC dI cI cJ o qd ad qe ae qo ao r qi ai qs aS qk ak qt aT (n * 32) (n * 32 / 9 + 1) fd fe fo fi fs fk ft (nI n) (nI T) wr up bk (nI R) (nI (Bg R)) (nI S) (nI (Bg S)) ja fL (by omega) (by omega) hex hst
      have hfl : ∀ k, k < 4 → rw_fill ft fk (2 * k) = nI (cN fI Bg (nI (k + 1)) R) >>> ((8 : Int32) &&& 31) ∧ rw_fill ft fk (2 * k + 1) = nI (cN fI Bg (nI (k + 1)) R) &&& 255 := fun k hk => rw_fill_n (c := fun k => cN fI Bg (nI k) R) r5.2.2.2.2.2.2 (fun k => by have := cN_le fI Bg (nI k) R; omega) k hk
      have hst4 : ag (Bg R + 5 + 8) (enF fi (rw_fill ft fk) (Bg R) R 8 5) (whF fI (Bg R) R Bg) := st_eq r5 r2 (by omega) kp_hd (ag_hd r5.2.2.2.2.2.1 (by omega) (by8_n (m := 5) (by omega)) (by8_n (m := 8) (by omega))) hfl 4 (Nat.le_refl 4)
      have hkp0 : kp (Bg R + 5) (hdN fI (Bg R) R 5 8) (enI (whF fI (Bg R) R Bg) (Bg R) (Bg R + 5 + 8)) := kp_cl (stM_kp (Nat.le_refl _) 4) (by omega) 4
      have hkp : kp (Bg R) fI (enI (whF fI (Bg R) R Bg) (Bg R) (Bg R + 5 + 8)) := fun p hp => (hkp0 p (by omega)).trans (kp_hd p hp)
      have hkd : (enI (whF fI (Bg R) R Bg) (Bg R) (Bg R + 5 + 8)) (Bg R + 1) = nI 5 := by rw [hkp0 _ (by omega)]; unfold hdN; rw [pk_un (by omega), pk_un (by omega), pk_un (by omega), pk_us]; rfl
      have hln : (enI (whF fI (Bg R) R Bg) (Bg R) (Bg R + 5 + 8)) (Bg R + 4) = nI 8 := by rw [hkp0 _ (by omega)]; unfold hdN; rw [pk_us]; rfl
      obtain ⟨hC, hU⟩ := core_push (m := 8) (k := 5) (fi' := enI (enF fi (rw_fill ft fk) (Bg R) R 8 5) (Bg R) (Bg R + 5 + 8)) (fI' := enI (whF fI (Bg R) R Bg) (Bg R) (Bg R + 5 + 8)) r2 hN hK r5 (by omega) (by omega) (by omega) c4 hkp (show ag (Bg R + 9 + 8) _ _ by rw [show Bg R + 9 + 8 = Bg R + 5 + 8 + 4 by omega]; exact ag_en hst4 (by omega)) hkd hln
      have hI : rw_image (n * 32) fi (nI (Bg R)) (nI R) 5 8 8 (rw_fill ft fk) = enI (enF fi (rw_fill ft fk) (Bg R) R 8 5) (Bg R) (Bg R + 5 + 8) := rw_image_n (m := 8) (kind := 5) (by omega) (by omega) (by omega) (by omega) (by omega)
      rw [hI, hU, nI_1] at h1
      refine ⟨(R + 1), S, T, (updN Bg (R + 1) (Bg R + 9 + 8)), (updN ln R 8), fd, fe, fo, (enI (enF fi (rw_fill ft fk) (Bg R) R 8 5) (Bg R) (Bg R + 5 + 8)), (rw_enS (n * 32 / 9 + 1) fs (nI R) (nI (Bg R))), (rw_enK (n * 32) (n * 32 / 9 + 1) (enI (enF fi (rw_fill ft fk) (Bg R) R 8 5) (Bg R) (Bg R + 5 + 8)) fs fk (nI R) (nI (Bg R))), (rw_fill ft fk), fD, fS, (enI (whF fI (Bg R) R Bg) (Bg R) (Bg R + 5 + 8)), (upd fB (R + 1) (nI (Bg R + 9 + 8))), fT, wr, up, bk, (vp_updL fL 0 (nI (R + 1)).toInt64), 0, nI (R + 1), ⟨r1, r2, by omega, r4, hC, r6, r7, r8, r9, r10, fun z => absurd z c3⟩, ?_, ?_, fun _ => pk_uLs⟩
      · unfold wJ; rw [uN_s, uN_n (show ¬ S = R + 1 by omega)]
        exact h1
      · rw [show Bg R + 9 + 8 = Bg R + 5 + 8 + 4 by omega]
        exact h2
    · have hex : exWhole (n * 32) up (nI (Bg R)) = some xUOE := by unfold exWhole exDown exFull; rw [if_neg c3, hle, if_neg (nI_ge (by omega) (by omega))]; rfl
      have hth : thWhole n (Bg R) up = 2 := by unfold thWhole; rw [if_neg c3, if_neg c4]; rfl
      have h2 := m_X3_whole l dC dI cI cJ h d1 s1 i1 b1 t1 fD fS fI fB fT n R S T bk up wr th (Bg R) Bg r2 hR227 hBR hRn (fun j hj => ⟨r5.2.2.2.1 j (by omega), by have := r5.in hj; omega⟩)
      simp only [hth, il0, il1, il2, il3] at h2
      exact ⟨R, S, T, Bg, ln, fd, fe, fo, fi, fs, fk, ft, fD, fS, fI, fB, fT, wr, up, bk, fL, 2, 0, hR, h_whole_UOE l dC dI cI cJ o qd ad qe ae qo ao r qi ai qs aS qk ak qt aT (n * 32) (n * 32 / 9 + 1) fd fe fo fi fs fk ft (nI n) (nI T) wr up bk (nI R) (nI (Bg R)) (nI S) (nI (Bg S)) ja fL (by omega) (by omega) hex hst, h2, fun z => absurd z (by decide)⟩
set_option maxHeartbeats 4000000 in
set_option maxRecDepth 100000 in
theorem st_sync (l : Launch) (dC : Nat → ClassId) (dI : Nat → Nat → Nat) (cI cJ : ClassId) (o qd ad qe ae qo ao r qi ai qs aS qk ak qt aT ja h d1 s1 i1 b1 t1 n R S T : Nat) (Bg ln : Nat → Nat) (fd fe fo fi fs fk ft fD fS fI fB fT : Nat → Int32) (wr up bk th : Int32) (fL : Nat → Int64) (hR : Rel n R S T Bg ln fd fe fo fi fs fk fD fS fI fB fT up bk) (hst : l.stackTraces = false)  : ∃ (R' S' T' : Nat) (Bg' ln' : Nat → Nat) (fd' fe' fo' fi' fs' fk' ft' fD' fS' fI' fB' fT' : Nat → Int32) (wr' up' bk' : Int32) (fL' : Nat → Int64) (c bb : Int32), Rel n R' S' T' Bg' ln' fd' fe' fo' fi' fs' fk' fD' fS' fI' fB' fT' up' bk' ∧ cH l yL_sync wsL_sync ({ frames := 8, cells := 1, slots := 6, locals := 123 }) dC dI cI cJ (wJ cI cJ o qd ad qe ae qo ao r qi ai qs aS qk ak qt aT ja n R S T Bg fd fe fo fi fs fk ft wr up bk fL) (wJ cI cJ o qd ad qe ae qo ao r qi ai qs aS qk ak qt aT ja n R' S' T' Bg' fd' fe' fo' fi' fs' fk' ft' wr' up' bk' fL') [o, qd, ad, qe, ae, qo, ao, r, qi, ai, qs, aS, qk, ak, qt, aT, ja] [.ref o, .ref ja] (some (.int c)) 1 6 ∧ cW l yX3_sync wsX3_sync ({ frames := 0, cells := 0, slots := 0, locals := 0 }) dC dI cI cJ (wM cI h d1 s1 i1 b1 t1 n R S T fD fS fI fB fT wr up bk th) (wM cI h d1 s1 i1 b1 t1 n R' S' T' fD' fS' fI' fB' fT' wr' up' bk' c) [h, d1, s1, i1, b1, t1] [.ref h] (some (.int bb)) ∧ (c = 0 → fL' 0 = bb.toInt64) := by
  obtain ⟨hR227, hRn, hSR⟩ := hR.R227
  obtain ⟨r1, r2, r3, r4, r5, r6, r7, r8, r9, r10, r11⟩ := id hR
  have hlast := nlt_i hR227
  have hN : n * 32 = 32 * n := Nat.mul_comm n 32
  have hK : n * 32 / 9 + 1 = 32 * n / 9 + 1 := by rw [hN]
  have hBR : fB R = nI (Bg R) := r5.2.2.2.1 R (Nat.le_refl R)
  have hBS : fB S = nI (Bg S) := r5.2.2.2.1 S r3
  by_cases c3 : up = 0
  · have hex : exOne (exDown up) = some xISE := by unfold exOne exDown; rw [if_pos c3]; rfl
    have hth : thUp up = 1 := if_pos c3
    have h2 := m_X3_sync l dC dI cI cJ h d1 s1 i1 b1 t1 fD fS fI fB fT n R S T bk up wr th (Bg R) (Bg S) r2 hR227 r3 hBR hBS hRn hSR
    simp only [hth, il0, il1, il2, il3] at h2
    exact ⟨R, S, T, Bg, ln, fd, fe, fo, fi, fs, fk, ft, fD, fS, fI, fB, fT, wr, up, bk, fL, 1, 0, hR, h_sync_ISE l dC dI cI cJ o qd ad qe ae qo ao r qi ai qs aS qk ak qt aT (n * 32) (n * 32 / 9 + 1) fd fe fo fi fs fk ft (nI n) (nI T) wr up bk (nI R) (nI (Bg R)) (nI S) (nI (Bg S)) ja fL (by omega) (by omega) hex hst, h2, fun z => absurd z (by decide)⟩
  · have hex : exOne (exDown up) = none := by unfold exOne exDown; rw [if_neg c3]; rfl
    have hth : thUp up = 0 := if_neg c3
    have h2 := m_X3_sync l dC dI cI cJ h d1 s1 i1 b1 t1 fD fS fI fB fT n R S T bk up wr th (Bg R) (Bg S) r2 hR227 r3 hBR hBS hRn hSR
    simp only [hth, il0] at h2
    have h1 := h_sync_ok l dC dI cI cJ o qd ad qe ae qo ao r qi ai qs aS qk ak qt aT (n * 32) (n * 32 / 9 + 1) fd fe fo fi fs fk ft (nI n) (nI T) wr up bk (nI R) (nI (Bg R)) (nI S) (nI (Bg S)) ja fL (by omega) (by omega) hex hst
    rw [ca_copy_n hSR (by omega) (by omega) (by omega) (by omega), pk_sub r3] at h1
    exact ⟨R, R, T, Bg, ln, (cpN fd fi (Bg S) (Bg R - Bg S)), fe, fo, fi, fs, fk, ft, (cpN fD fI (Bg S) (Bg R - Bg S)), fS, fI, fB, fT, wr, up, bk, (vp_updL fL 0 (nI (R - S)).toInt64), 0, nI (R - S), ⟨r1, r2, Nat.le_refl R, r4, r5, dk_cp r6 _ (fun p h3 h4 => r5.2.2.2.2.2.1 p (by omega)), r7, r8, r9, r10, fun _ => rfl⟩, h1, h2, fun _ => pk_uLs⟩
set_option maxHeartbeats 4000000 in
set_option maxRecDepth 100000 in
theorem st_cut (l : Launch) (dC : Nat → ClassId) (dI : Nat → Nat → Nat) (cI cJ : ClassId) (o qd ad qe ae qo ao r qi ai qs aS qk ak qt aT ja h d1 s1 i1 b1 t1 n R S T : Nat) (Bg ln : Nat → Nat) (fd fe fo fi fs fk ft fD fS fI fB fT : Nat → Int32) (wr up bk th : Int32) (fL : Nat → Int64) (hR : Rel n R S T Bg ln fd fe fo fi fs fk fD fS fI fB fT up bk) (hst : l.stackTraces = false) (keep : Int32) (mask : Int32) : ∃ (R' S' T' : Nat) (Bg' ln' : Nat → Nat) (fd' fe' fo' fi' fs' fk' ft' fD' fS' fI' fB' fT' : Nat → Int32) (wr' up' bk' : Int32) (fL' : Nat → Int64) (c bb : Int32), Rel n R' S' T' Bg' ln' fd' fe' fo' fi' fs' fk' fD' fS' fI' fB' fT' up' bk' ∧ cH l yL_cut wsL_cut ({ frames := 8, cells := 1, slots := 6, locals := 125 }) dC dI cI cJ (wX cI o qd ad qe ae qo ao r qi ai qs aS qk ak qt aT n R S T Bg fd fe fo fi fs fk ft wr up bk) (wX cI o qd ad qe ae qo ao r qi ai qs aS qk ak qt aT n R' S' T' Bg' fd' fe' fo' fi' fs' fk' ft' wr' up' bk') [o, qd, ad, qe, ae, qo, ao, r, qi, ai, qs, aS, qk, ak, qt, aT] [.ref o, .int keep, .int mask] (some (.int c)) 1 6 ∧ cW l yX3_cut wsX3_cut ({ frames := 1, cells := 0, slots := 0, locals := 22 }) dC dI cI cJ (wM cI h d1 s1 i1 b1 t1 n R S T fD fS fI fB fT wr up bk th) (wM cI h d1 s1 i1 b1 t1 n R' S' T' fD' fS' fI' fB' fT' wr' up' bk' c) [h, d1, s1, i1, b1, t1] [.ref h, .int keep, .int mask] none := by
  obtain ⟨hR227, hRn, hSR⟩ := hR.R227
  obtain ⟨r1, r2, r3, r4, r5, r6, r7, r8, r9, r10, r11⟩ := id hR
  have hlast := nlt_i hR227
  have hN : n * 32 = 32 * n := Nat.mul_comm n 32
  have hK : n * 32 / 9 + 1 = 32 * n / 9 + 1 := by rw [hN]
  have hBR : fB R = nI (Bg R) := r5.2.2.2.1 R (Nat.le_refl R)
  have hBS : fB S = nI (Bg S) := r5.2.2.2.1 S r3
  have hud : nI (Bg R) - nI (Bg S) = nI (Bg R - Bg S) := pk_sub hSR
  have far : exCut up (nI (Bg R)) (nI (Bg S)) keep mask = some xIAE → mWithin keep 0 0 = 0 → mWithin keep 0 (nI (Bg R - Bg S)) = 0 → ∃ (R' S' T' : Nat) (Bg' ln' : Nat → Nat) (fd' fe' fo' fi' fs' fk' ft' fD' fS' fI' fB' fT' : Nat → Int32) (wr' up' bk' : Int32) (fL' : Nat → Int64) (c bb : Int32), Rel n R' S' T' Bg' ln' fd' fe' fo' fi' fs' fk' fD' fS' fI' fB' fT' up' bk' ∧ cH l yL_cut wsL_cut ({ frames := 8, cells := 1, slots := 6, locals := 125 }) dC dI cI cJ (wX cI o qd ad qe ae qo ao r qi ai qs aS qk ak qt aT n R S T Bg fd fe fo fi fs fk ft wr up bk) (wX cI o qd ad qe ae qo ao r qi ai qs aS qk ak qt aT n R' S' T' Bg' fd' fe' fo' fi' fs' fk' ft' wr' up' bk') [o, qd, ad, qe, ae, qo, ao, r, qi, ai, qs, aS, qk, ak, qt, aT] [.ref o, .int keep, .int mask] (some (.int c)) 1 6 ∧ cW l yX3_cut wsX3_cut ({ frames := 1, cells := 0, slots := 0, locals := 22 }) dC dI cI cJ (wM cI h d1 s1 i1 b1 t1 n R S T fD fS fI fB fT wr up bk th) (wM cI h d1 s1 i1 b1 t1 n R' S' T' fD' fS' fI' fB' fT' wr' up' bk' c) [h, d1, s1, i1, b1, t1] [.ref h, .int keep, .int mask] none := fun hex hk0 hk1 => ⟨R, S, T, Bg, ln, fd, fe, fo, fi, fs, fk, ft, fD, fS, fI, fB, fT, wr, up, bk, fL, 1, 0, hR, h_cut_IAE l dC dI cI cJ o qd ad qe ae qo ao r qi ai qs aS qk ak qt aT (n * 32) (n * 32 / 9 + 1) fd fe fo fi fs fk ft (nI n) (nI T) wr up bk (nI R) (nI (Bg R)) (nI S) (nI (Bg S)) keep mask (by omega) (by omega) hlast hex hst, m_X3_cutX l dC dI cI cJ h d1 s1 i1 b1 t1 fD fS fI fB fT n R S T bk up wr th (Bg R) (Bg S) keep mask r2 hR227 r3 hBR hBS hRn hSR hk0 hk1⟩
  by_cases c1 : keep < 0
  · exact far (if_pos c1) (if_pos c1) (if_pos c1)
  · by_cases c2 : keep ≤ nI (Bg R - Bg S)
    · obtain ⟨kp, hkp, rfl⟩ := nI_of2 (x := keep) (M := nI (Bg R - Bg S)) (n := Bg R - Bg S) (nI_toInt (by omega)) c1 c2
      by_cases c3 : mask < 0
      · have hex : exCut up (nI (Bg R)) (nI (Bg S)) (nI kp) mask = some xIAE := by unfold exCut; rw [if_neg c1, hud, if_pos c2, if_pos c3]
        have hth : thCut (Bg R) (Bg S) up (nI kp) mask = 1 := if_pos (if_pos c3)
        have h2 := m_X3_cut l dC dI cI cJ h d1 s1 i1 b1 t1 fD fS fI fB fT n R S T bk up wr th (Bg R) (Bg S) kp mask r2 hR227 r3 hBR hBS hRn hSR hkp
        simp only [hth, il0, il1, il2, il3] at h2
        exact ⟨R, S, T, Bg, ln, fd, fe, fo, fi, fs, fk, ft, fD, fS, fI, fB, fT, wr, up, bk, fL, 1, 0, hR, h_cut_IAE l dC dI cI cJ o qd ad qe ae qo ao r qi ai qs aS qk ak qt aT (n * 32) (n * 32 / 9 + 1) fd fe fo fi fs fk ft (nI n) (nI T) wr up bk (nI R) (nI (Bg R)) (nI S) (nI (Bg S)) (nI kp) mask (by omega) (by omega) hlast hex hst, h2⟩
      · by_cases c4 : mask ≤ 255
        · have hw : ¬ mWithin mask 0 255 = 0 := by unfold mWithin; rw [if_neg c3, if_neg (Int32.not_lt.mpr c4)]; decide
          by_cases c5 : up = 0
          · have hex : exCut up (nI (Bg R)) (nI (Bg S)) (nI kp) mask = some xISE := by unfold exCut exDown; rw [if_neg c1, hud, if_pos c2, if_neg c3, if_pos c4, if_pos c5]; rfl
            have hRS := r11 c5
            have hk9 : ¬ mWithin (nI kp) 0 0 = 0 := by rw [show kp = 0 by rw [hRS] at hkp; omega]; decide
            have hth : thCut (Bg R) (Bg S) up (nI kp) mask = 2 := by unfold thCut; rw [if_neg hw, if_pos c5, if_neg hk9]
            have h2 := m_X3_cut l dC dI cI cJ h d1 s1 i1 b1 t1 fD fS fI fB fT n R S T bk up wr th (Bg R) (Bg S) kp mask r2 hR227 r3 hBR hBS hRn hSR hkp
            simp only [hth, il0, il1, il2, il3] at h2
            exact ⟨R, S, T, Bg, ln, fd, fe, fo, fi, fs, fk, ft, fD, fS, fI, fB, fT, wr, up, bk, fL, 2, 0, hR, h_cut_ISE l dC dI cI cJ o qd ad qe ae qo ao r qi ai qs aS qk ak qt aT (n * 32) (n * 32 / 9 + 1) fd fe fo fi fs fk ft (nI n) (nI T) wr up bk (nI R) (nI (Bg R)) (nI S) (nI (Bg S)) (nI kp) mask (by omega) (by omega) hlast hex hst, h2⟩
          · have hex : exCut up (nI (Bg R)) (nI (Bg S)) (nI kp) mask = none := by unfold exCut exDown; rw [if_neg c1, hud, if_pos c2, if_neg c3, if_pos c4, if_neg c5]; rfl
            have hk9 : ¬ mWithin (nI kp) 0 (nI (Bg R - Bg S)) = 0 := fun z => absurd ⟨Nat.zero_le kp, hkp⟩ ((within_n (x := nI kp) (lo := 0) (hi := Bg R - Bg S) rfl (by omega) (by omega) (by omega)).mp z)
            have hth : thCut (Bg R) (Bg S) up (nI kp) mask = 0 := by unfold thCut; rw [if_neg hw, if_neg c5, if_neg hk9]
            have h2 := m_X3_cut l dC dI cI cJ h d1 s1 i1 b1 t1 fD fS fI fB fT n R S T bk up wr th (Bg R) (Bg S) kp mask r2 hR227 r3 hBR hBS hRn hSR hkp
            simp only [hth, il0] at h2
            have h1 := h_cut_ok l dC dI cI cJ o qd ad qe ae qo ao r qi ai qs aS qk ak qt aT (n * 32) (n * 32 / 9 + 1) fd fe fo fi fs fk ft (nI n) (nI T) wr up bk (nI R) (nI (Bg R)) (nI S) (nI (Bg S)) (nI kp) mask (by omega) (by omega) hlast hex hst
            have hcd : sl_cut (n * 32) fd fi (nI (Bg R)) (nI (Bg S)) (nI kp) mask = (if kp < Bg R - Bg S then (if mask = 0 then cpN fd fi (Bg S) kp else upd (cpN fd fi (Bg S) kp) (Bg S + kp) ((fi (Bg S + kp)) ^^^ mask)) else cpN fd fi (Bg S) kp) := by
              unfold sl_cut
              rw [nI_add, ca_copy_n (by omega) (by omega) (by omega) (by omega) (by omega), show Bg S + kp - Bg S = kp by omega]
              by_cases c6 : mask = 0
              · rw [if_pos c6]; split <;> first | rfl | rw [if_pos c6]
              · rw [if_neg c6]
                by_cases c7 : kp < Bg R - Bg S
                · rw [if_neg (nI_ge (by omega) (by omega)), if_pos c7, if_neg c6, ca_at_n (by omega) (by omega), ca_set_n (by omega) (by omega)]
                · rw [if_pos (nI_le (by omega) (by omega)), if_neg c7]
            rw [hcd] at h1
            have hdk : dk n (if kp < Bg R - Bg S then (if mask = 0 then cpN fd fi (Bg S) kp else upd (cpN fd fi (Bg S) kp) (Bg S + kp) ((fi (Bg S + kp)) ^^^ mask)) else cpN fd fi (Bg S) kp) (if kp < Bg R - Bg S then (if mask = 0 then cpN fD fI (Bg S) kp else upd (cpN fD fI (Bg S) kp) (Bg S + kp) ((fI (Bg S + kp)) ^^^ mask)) else cpN fD fI (Bg S) kp) := by
              have h3 := dk_cp (b := Bg S) r6 kp (fun p h3 h4 => r5.2.2.2.2.2.1 p (by omega))
              by_cases c7 : kp < Bg R - Bg S
              · rw [if_pos c7, if_pos c7]
                by_cases c6 : mask = 0
                · rw [if_pos c6, if_pos c6]; exact h3
                · rw [if_neg c6, if_neg c6, (r5.2.2.2.2.2.1 (Bg S + kp) (by omega)).1]
                  exact dk_upd h3 (by8_xor (r5.2.2.2.2.2.1 (Bg S + kp) (by omega)).2 (by8_of c3 c4))
              · rw [if_neg c7, if_neg c7]; exact h3
            exact ⟨S, S, 0, Bg, ln, (if kp < Bg R - Bg S then (if mask = 0 then cpN fd fi (Bg S) kp else upd (cpN fd fi (Bg S) kp) (Bg S + kp) ((fi (Bg S + kp)) ^^^ mask)) else cpN fd fi (Bg S) kp), fe, fo, fi, fs, (rw_drop (n * 32) (n * 32 / 9 + 1) fi fs fk (nI R) (nI S)), ft, (if kp < Bg R - Bg S then (if mask = 0 then cpN fD fI (Bg S) kp else upd (cpN fD fI (Bg S) kp) (Bg S + kp) ((fI (Bg S + kp)) ^^^ mask)) else cpN fD fI (Bg S) kp), fS, fI, fB, fT, wr, 0, bk, fL, 0, 0, ⟨r1, r2, Nat.le_refl S, by omega, core_drop r2 hN hK r5 r3, hdk, r7, fun j hj => absurd hj (Nat.not_lt_zero j), Or.inl rfl, r10, fun _ => rfl⟩, h1, h2⟩
        · have hex : exCut up (nI (Bg R)) (nI (Bg S)) (nI kp) mask = some xIAE := by unfold exCut; rw [if_neg c1, hud, if_pos c2, if_neg c3, if_neg c4]
          have hth : thCut (Bg R) (Bg S) up (nI kp) mask = 1 := by unfold thCut mWithin; rw [if_neg c3, if_pos (Int32.not_le.mp c4)]; rfl
          have h2 := m_X3_cut l dC dI cI cJ h d1 s1 i1 b1 t1 fD fS fI fB fT n R S T bk up wr th (Bg R) (Bg S) kp mask r2 hR227 r3 hBR hBS hRn hSR hkp
          simp only [hth, il0, il1, il2, il3] at h2
          exact ⟨R, S, T, Bg, ln, fd, fe, fo, fi, fs, fk, ft, fD, fS, fI, fB, fT, wr, up, bk, fL, 1, 0, hR, h_cut_IAE l dC dI cI cJ o qd ad qe ae qo ao r qi ai qs aS qk ak qt aT (n * 32) (n * 32 / 9 + 1) fd fe fo fi fs fk ft (nI n) (nI T) wr up bk (nI R) (nI (Bg R)) (nI S) (nI (Bg S)) (nI kp) mask (by omega) (by omega) hlast hex hst, h2⟩
    · have hpos : (0 : Int32) < keep := Int32.lt_of_le_of_lt (nI_pos' (n := Bg R - Bg S) (by omega)) (Int32.not_le.mp c2)
      exact far (by unfold exCut; rw [if_neg c1, hud, if_neg c2]) (by unfold mWithin; rw [if_neg c1, if_pos hpos]) (by unfold mWithin; rw [if_neg c1, if_pos (Int32.not_le.mp c2)])
