/-! two images, the same bytes below u; an image kept below u -/
def ag (u : Nat) (f g : Nat → Int32) : Prop := ∀ p, p < u → f p = g p ∧ by8 (g p)
theorem ag_le {u v : Nat} {f g : Nat → Int32} (h : ag u f g) (hv : v ≤ u) : ag v f g := fun p hp => h p (by omega)
theorem ag_push {u : Nat} {f g : Nat → Int32} {v : Int32} (h : ag u f g) (hv : by8 v) : ag (u + 1) (upd f u v) (upd g u v) := fun p hp => by
  by_cases c : p = u
  · subst c
    rw [pk_us, pk_us]
    exact ⟨rfl, hv⟩
  · rw [pk_un c, pk_un c]
    exact h p (by omega)
theorem ag_upd {u i : Nat} {f g : Nat → Int32} {v : Int32} (h : ag u f g) (hv : by8 v) : ag u (upd f i v) (upd g i v) := fun p hp => by
  by_cases c : p = i
  · subst c
    rw [pk_us, pk_us]
    exact ⟨rfl, hv⟩
  · rw [pk_un c, pk_un c]
    exact h p hp
def kp (u : Nat) (f g : Nat → Int32) : Prop := ∀ p, p < u → g p = f p
theorem kp_rf {u : Nat} {f : Nat → Int32} : kp u f f := fun _ _ => rfl
theorem kp_upd {u i : Nat} {f g : Nat → Int32} {v : Int32} (h : kp u f g) (hi : u ≤ i) : kp u f (upd g i v) := fun p hp => by
  rw [pk_un (by omega)]
  exact h p hp
theorem kp_bd {u b : Nat} {f g t : Nat → Int32} (h : kp u f g) (hb : u ≤ b) : ∀ k, kp u f (bdN g t b k)
  | 0 => h
  | k + 1 => kp_upd (kp_bd h hb k) (by omega)
theorem kp_cl {u b : Nat} {f g : Nat → Int32} {s : Int32} (h : kp u f g) (hb : u ≤ b) : ∀ k, kp u f (clN g b s k)
  | 0 => h
  | k + 1 => kp_upd (kp_cl h hb k) (by omega)
theorem kp_cp {u b : Nat} {f g t : Nat → Int32} (h : kp u f g) (hb : u ≤ b) : ∀ k, kp u f (cpN g t b k)
  | 0 => h
  | k + 1 => kp_upd (kp_cp h hb k) (by omega)
theorem kp_hd {a R : Nat} {f : Nat → Int32} {kind m : Int32} : kp a f (hdN f a R kind m) :=
  kp_upd (kp_upd (kp_upd (kp_upd (kp_upd kp_rf (Nat.le_refl a)) (by omega)) (by omega)) (by omega)) (by omega)
theorem ag_hd {a R : Nat} {f g : Nat → Int32} {kind m : Int32} (h : ag a f g) (hR : R + 1 < 65536) (hk : by8 kind) (hm : by8 m) : ag (a + 5) (hdN f a R kind m) (hdN g a R kind m) :=
  ag_push (ag_push (ag_push (ag_push (ag_push h (by8_n (m := 90) (by decide))) hk) (by8_hi hR)) (by8_and _)) hm
theorem ag_bd {b : Nat} {f g t t' : Nat → Int32} (h : ag b f g) : ∀ k, (∀ j, j < k → t j = t' j ∧ by8 (t' j)) → ag (b + k) (bdN f t b k) (bdN g t' b k)
  | 0, _ => h
  | k + 1, ht => by
    rw [bdN, bdN, (ht k (by omega)).1]
    exact ag_push (ag_bd h k (fun j hj => ht j (by omega))) (ht k (by omega)).2
theorem ag_cl {b : Nat} {f g : Nat → Int32} {s : Int32} (h : ag b f g) : ∀ k, ag (b + k) (clN f b s k) (clN g b s k)
  | 0 => h
  | k + 1 => ag_push (ag_cl h k) (by8_and _)
theorem ag_cp {b : Nat} {f g t t' : Nat → Int32} (h : ag b f g) : ∀ k, (∀ p, b ≤ p → p < b + k → t p = t' p ∧ by8 (t' p)) → ag (b + k) (cpN f t b k) (cpN g t' b k)
  | 0, _ => h
  | k + 1, ht => by
    rw [cpN, cpN, (ht (b + k) (by omega) (by omega)).1]
    exact ag_push (ag_cp h k (fun j h1 h2 => ht j h1 (by omega))) (ht (b + k) (by omega) (by omega)).2
/-- a piece copied within a disk -/
theorem ag_cpD {u b : Nat} {f g t t' : Nat → Int32} (h : ag u f g) : ∀ k, (∀ p, b ≤ p → p < b + k → t p = t' p ∧ by8 (t' p)) → ag u (cpN f t b k) (cpN g t' b k)
  | 0, _ => h
  | k + 1, ht => by
    rw [cpN, cpN, (ht (b + k) (by omega) (by omega)).1]
    exact ag_upd (ag_cpD h k (fun j h1 h2 => ht j h1 (by omega))) (ht (b + k) (by omega) (by omega)).2
theorem ag_sum {u a k : Nat} {f g : Nat → Int32} (h : ag u f g) (hu : a + k ≤ u) : sN f a k = sN g a k := sN_congr k (fun p _ h2 => (h p (by omega)).1)
theorem ag_en {bR b : Nat} {F G : Nat → Int32} (h : ag b F G) (hb : bR + 1 ≤ b) : ag (b + 4) (enI F bR b) (enI G bR b) := by
  unfold enI
  rw [ag_sum h (a := bR + 1) (k := b - (bR + 1)) (by omega)]
  exact ag_cl h 4
theorem rw_img_n {N a R : Nat} {fi : Nat → Int32} {kind m : Int32} (h : a + 5 ≤ N) (hN : N < 2 ^ 31) (hR : R + 1 < 65536) : rw_img N fi (nI a) (nI R) kind m = hdN fi a R kind m := by
  unfold rw_img hdN
  rw [nI_1 R, nI_1 a, show nI a + 2 = nI (a + 2) from nI_add a 2, show nI a + 4 = nI (a + 4) from nI_add a 4, ca_set_n (by omega) hN, ca_setNum2 (by omega) hN hR, ca_set_n (by omega) hN, ca_set_n (by omega) hN]
theorem itN_bd {f g : Nat → Int32} {b : Nat} : ∀ k, itN (fun j x => upd x (b + j) (g j)) 0 k f = bdN f g b k
  | 0 => rfl
  | k + 1 => by rw [itN, itN_bd k, bdN, Nat.zero_add]
theorem rw_body_n {N M a m : Nat} {f g : Nat → Int32} (h : a + 5 + m ≤ N) (hm : m ≤ M) (hN : N < 2 ^ 31) (hM : M < 2 ^ 31) : rw_body N f M g (nI a) (nI m) = bdN f g (a + 5) m := by
  unfold rw_body
  rw [show (0 : Int32) = nI 0 from rfl, show nI a + 5 = nI (a + 5) from nI_add a 5, loopE_it (fun j x => upd x (a + 5 + j) (g j)) (by omega) m 0 f (by omega) (fun j y h1 h2 => by rw [nI_add, ca_at_n (by omega) hM, ca_set_n (by omega) hN])]
  exact itN_bd _
theorem rw_image_n {N M a R m : Nat} {fi g : Nat → Int32} {kind : Int32} (h : a + 9 + m ≤ N) (hm : m ≤ M) (hN : N < 2 ^ 31) (hM : M < 2 ^ 31) (hR : R + 1 < 65536) : rw_image N fi (nI a) (nI R) kind (nI m) M g = enI (enF fi g a R m kind) a (a + 5 + m) := by
  unfold rw_image rw_tail
  rw [rw_img_n (by omega) hN hR, rw_body_n (by omega) hm hN hM, show nI a + 5 + nI m = nI (a + 5 + m) from by rw [show nI a + 5 = nI (a + 5) from nI_add a 5, nI_add], sl_sum_n (by omega) hN, ca_setNum4 (by omega) hN]
  unfold enI enF
  rw [show a + 5 + m - (a + 1) = m + 4 by omega]
theorem en_kd {a R m : Nat} {f t : Nat → Int32} {kind : Int32} : enI (enF f t a R m kind) a (a + 5 + m) (a + 1) = kind := by
  unfold enI enF
  rw [kp_cl (kp_bd kp_rf (Nat.le_refl (a + 5)) m) (by omega) 4 (a + 1) (by omega)]
  unfold hdN
  rw [pk_un (by omega), pk_un (by omega), pk_un (by omega), pk_us]
theorem en_ln {a R m : Nat} {f t : Nat → Int32} {kind : Int32} : enI (enF f t a R m kind) a (a + 5 + m) (a + 4) = nI m := by
  unfold enI enF
  rw [kp_cl (kp_bd kp_rf (Nat.le_refl (a + 5)) m) (by omega) 4 (a + 4) (by omega)]
  unfold hdN
  rw [pk_us]
theorem en_kp {a R m : Nat} {f t : Nat → Int32} {kind : Int32} : kp a f (enI (enF f t a R m kind) a (a + 5 + m)) :=
  kp_cl (kp_bd kp_hd (by omega) m) (by omega) 4
theorem cN_congr {f g : Nat → Int32} {B C : Nat → Nat} {kind : Int32} : ∀ u, (∀ j, j < u → f (B j + 1) = g (C j + 1)) → cN f B kind u = cN g C kind u
  | 0, _ => rfl
  | u + 1, h => by rw [cN, cN, h u (by omega), cN_congr u (fun j hj => h j (by omega))]
theorem cN_mono {f : Nat → Int32} {B : Nat → Nat} {kind : Int32} (u : Nat) : ∀ d, cN f B kind u ≤ cN f B kind (u + d)
  | 0 => Nat.le_refl _
  | d + 1 => by
    have h := cN_mono (f := f) (B := B) (kind := kind) u d
    rw [show u + (d + 1) = u + d + 1 from rfl, cN]
    split <;> omega
theorem Bg_mono {Bg ln : Nat → Nat} {R : Nat} (h : ∀ j, j < R → Bg (j + 1) = Bg j + 9 + ln j) : ∀ d j, j + d ≤ R → Bg j + 9 * d ≤ Bg (j + d)
  | 0, j, _ => Nat.le_refl _
  | d + 1, j, hj => by
    have h1 := Bg_mono h d j (by omega)
    have h2 := h (j + d) (by omega)
    rw [show j + (d + 1) = j + d + 1 from rfl]
    omega
/-- the rows: begun where, how long, of which kind; the class's and the reference's -/
def Core (n R : Nat) (Bg ln : Nat → Nat) (fi fs fk fI fB : Nat → Int32) : Prop :=
  Bg 0 = 0 ∧ Bg R ≤ 32 * n ∧ (∀ j, j < R → Bg (j + 1) = Bg j + 9 + ln j ∧ ln j ≤ 20 ∧ fI (Bg j + 4) = nI (ln j) ∧ ∃ k, 1 ≤ k ∧ k ≤ 5 ∧ fI (Bg j + 1) = nI k) ∧ (∀ j, j ≤ R → fB j = nI (Bg j)) ∧ (∀ j, j < R → fs (j + 1) = nI (Bg j)) ∧ ag (Bg R) fi fI ∧ (∀ k, 1 ≤ k → k ≤ 5 → fk k = nI (cN fI Bg (nI k) R))
theorem Core.le {n R : Nat} {Bg ln : Nat → Nat} {fi fs fk fI fB : Nat → Int32} (h : Core n R Bg ln fi fs fk fI fB) {j : Nat} (hj : j ≤ R) : Bg j + 9 * (R - j) ≤ Bg R ∧ 9 * j ≤ Bg j := by
  have h1 := Bg_mono (fun j hj => (h.2.2.1 j hj).1) (R - j) j (by omega)
  have h2 := Bg_mono (fun j hj => (h.2.2.1 j hj).1) j 0 (by omega)
  rw [show j + (R - j) = R by omega] at h1
  rw [Nat.zero_add, h.1] at h2
  exact ⟨h1, by omega⟩
theorem Core.in {n R : Nat} {Bg ln : Nat → Nat} {fi fs fk fI fB : Nat → Int32} (h : Core n R Bg ln fi fs fk fI fB) {j : Nat} (hj : j < R) : Bg j + 9 + ln j ≤ Bg R := by
  have h1 := (h.le (j := j + 1) (by omega)).1
  have h2 := (h.2.2.1 j hj).1
  omega
theorem rw_kind_n {N K i b : Nat} {fi fs : Nat → Int32} (hN : N < 2 ^ 31) (hK : K < 2 ^ 31) (hi : i < K) (hs : fs i = nI b) (hb : b + 1 < N) : rw_kindOf N K fi fs (nI i) = fi (b + 1) := by
  unfold rw_kindOf
  rw [ca_at_n hi hK, hs, nI_1, ca_at_n hb hN]
theorem rw_len_n {N K i b : Nat} {fi fs : Nat → Int32} (hN : N < 2 ^ 31) (hK : K < 2 ^ 31) (hi : i < K) (hs : fs i = nI b) (hb : b + 4 < N) : rw_lengthOf N K fi fs (nI i) = fi (b + 4) := by
  unfold rw_lengthOf
  rw [ca_at_n hi hK, hs, show nI b + 4 = nI (b + 4) from nI_add b 4, ca_at_n hb hN]
theorem rw_byte_n {N K i b j : Nat} {fi fs : Nat → Int32} (hN : N < 2 ^ 31) (hK : K < 2 ^ 31) (hi : i < K) (hs : fs i = nI b) (hb : b + 5 + j < N) : rw_byteAt N K fi fs (nI i) (nI j) = fi (b + 5 + j) := by
  unfold rw_byteAt
  rw [ca_at_n hi hK, hs, show nI b + 5 = nI (b + 5) from nI_add b 5, nI_add, ca_at_n hb hN]
theorem core_push {n N K R m k : Nat} {Bg ln : Nat → Nat} {fi fs fk fI fB fi' fI' : Nat → Int32} (hn : n ≤ 64) (hN : N = 32 * n) (hK : K = 32 * n / 9 + 1) (h : Core n R Bg ln fi fs fk fI fB)
    (hk1 : 1 ≤ k) (hk5 : k ≤ 5) (hm : m ≤ 20) (hfit : Bg R + 9 + m ≤ 32 * n) (hkp : kp (Bg R) fI fI') (hag : ag (Bg R + 9 + m) fi' fI') (hkd : fI' (Bg R + 1) = nI k) (hln : fI' (Bg R + 4) = nI m) :
    Core n (R + 1) (updN Bg (R + 1) (Bg R + 9 + m)) (updN ln R m) fi' (rw_enS K fs (nI R) (nI (Bg R))) (rw_enK N K fi' fs fk (nI R) (nI (Bg R))) fI' (upd fB (R + 1) (nI (Bg R + 9 + m))) ∧ rw_enU N K fi' fs (nI R) (nI (Bg R)) = nI (Bg R + 9 + m) := by
  have h9 := (h.le (Nat.le_refl R)).2
  have hRK : R + 1 < K := by omega
  have eS : rw_enS K fs (nI R) (nI (Bg R)) = upd fs (R + 1) (nI (Bg R)) := by
    unfold rw_enS
    rw [nI_1, ca_set_n hRK (by omega)]
  have eK : rw_enK N K fi' fs fk (nI R) (nI (Bg R)) = upd fk k (nI (cN fI Bg (nI k) R) + 1) := by
    unfold rw_enK
    rw [eS, nI_1, rw_kind_n (by omega) (by omega) hRK pk_us (by omega), (hag (Bg R + 1) (by omega)).1, hkd]
    unfold rw_inc
    rw [ca_at_n (by omega) (by omega), ca_set_n (by omega) (by omega), h.2.2.2.2.2.2 k hk1 hk5]
  have eU : rw_enU N K fi' fs (nI R) (nI (Bg R)) = nI (Bg R + 9 + m) := by
    unfold rw_enU
    rw [eS, nI_1, rw_len_n (by omega) (by omega) hRK pk_us (by omega), (hag (Bg R + 4) (by omega)).1, hln, show (9 : Int32) + nI m = nI (9 + m) from nI_add 9 m, nI_add]
    exact congrArg nI (by omega)
  refine ⟨⟨?_, ?_, ?_, ?_, ?_, ?_, ?_⟩, eU⟩
  · rw [uN_n (by omega)]
    exact h.1
  · rw [uN_s]
    exact hfit
  · intro j hj
    by_cases c : j = R
    · subst c
      rw [uN_s, uN_n (by omega), uN_s]
      exact ⟨rfl, hm, hln, k, hk1, hk5, hkd⟩
    · have hj2 : j < R := by omega
      have h1 := h.2.2.1 j hj2
      have h2 := h.in hj2
      rw [uN_n (show ¬ j + 1 = R + 1 by omega), uN_n (show ¬ j = R + 1 by omega), uN_n c, hkp _ (by omega), hkp _ (by omega)]
      exact h1
  · intro j hj
    by_cases c : j = R + 1
    · subst c
      rw [pk_us, uN_s]
    · rw [pk_un c, uN_n c]
      exact h.2.2.2.1 j (by omega)
  · intro j hj
    rw [eS]
    by_cases c : j = R
    · subst c
      rw [pk_us, uN_n (by omega)]
    · rw [pk_un (by omega), uN_n (by omega)]
      exact h.2.2.2.2.1 j (by omega)
  · rw [uN_s]
    exact hag
  · intro q hq1 hq5
    have e1 : cN fI' (updN Bg (R + 1) (Bg R + 9 + m)) (nI q) R = cN fI Bg (nI q) R := cN_congr R (fun j hj => by
      have h2 := h.in hj
      rw [uN_n (by omega), hkp _ (by omega)])
    rw [eK, cN, uN_n (show ¬ R = R + 1 by omega), e1, hkd]
    by_cases c : k = q
    · subst c
      rw [pk_us, if_pos rfl, nI_1]
    · rw [pk_un (fun z => c z.symm), if_neg (fun z => c ((nI_eq (by omega) (by omega)).mp z))]
      exact h.2.2.2.2.2.2 q hq1 hq5
