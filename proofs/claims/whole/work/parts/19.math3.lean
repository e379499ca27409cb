/-! a state as a whole; find; total; the disks -/
theorem fill_eq {ft fk : Nat → Int32} {c : Nat → Nat} (hk : ∀ k, 1 ≤ k → k ≤ 5 → fk k = nI (c k)) (hc : ∀ k, c k < 65536) : ∀ j, j ≤ 4 → ∀ k, k < j →
    itN (fun q x => upd (upd x (2 * (q - 1)) (nI (c q) >>> ((8 : Int32) &&& 31))) (2 * (q - 1) + 1) (nI (c q) &&& 255)) 1 j ft (2 * k) = nI (c (k + 1)) >>> ((8 : Int32) &&& 31) ∧ itN (fun q x => upd (upd x (2 * (q - 1)) (nI (c q) >>> ((8 : Int32) &&& 31))) (2 * (q - 1) + 1) (nI (c q) &&& 255)) 1 j ft (2 * k + 1) = nI (c (k + 1)) &&& 255
  | 0, _, k, h => absurd h (Nat.not_lt_zero k)
  | j + 1, hj, k, h => by
    rw [itN]
    show (upd (upd _ (2 * (1 + j - 1)) _) (2 * (1 + j - 1) + 1) _) (2 * k) = _ ∧ (upd (upd _ (2 * (1 + j - 1)) _) (2 * (1 + j - 1) + 1) _) (2 * k + 1) = _
    rw [show 1 + j - 1 = j by omega]
    by_cases e : k = j
    · subst e
      rw [pk_un (by omega), pk_us, pk_us, Nat.add_comm 1 k]
      exact ⟨rfl, rfl⟩
    · rw [pk_un (by omega), pk_un (by omega), pk_un (by omega), pk_un (by omega)]
      exact fill_eq hk hc j (by omega) k (by omega)
theorem rw_fill_n {ft fk : Nat → Int32} {c : Nat → Nat} (hk : ∀ k, 1 ≤ k → k ≤ 5 → fk k = nI (c k)) (hc : ∀ k, c k < 65536) (k : Nat) (h : k < 4) : rw_fill ft fk (2 * k) = nI (c (k + 1)) >>> ((8 : Int32) &&& 31) ∧ rw_fill ft fk (2 * k + 1) = nI (c (k + 1)) &&& 255 := by
  have e : rw_fill ft fk = itN (fun q x => upd (upd x (2 * (q - 1)) (nI (c q) >>> ((8 : Int32) &&& 31))) (2 * (q - 1) + 1) (nI (c q) &&& 255)) 1 4 ft := by
    unfold rw_fill
    exact loopE_it (b := 5) (fun q x => upd (upd x (2 * (q - 1)) (nI (c q) >>> ((8 : Int32) &&& 31))) (2 * (q - 1) + 1) (nI (c q) &&& 255)) (by omega) 4 1 ft rfl (fun j y h1 h2 => by
      rw [show (1 : Int32) = nI 1 from rfl, pk_sub h1, show (2 : Int32) * nI (j - 1) = nI (2 * (j - 1)) from pk_mul 2 (j - 1), ca_at_n (by omega) (by omega), hk j h1 (by omega), ca_setNum2 (by omega) (by omega) (hc j)])
  rw [e]
  exact fill_eq hk hc 4 (Nat.le_refl 4) k h
theorem stM_kp {f : Nat → Int32} {a R u : Nat} {Bg : Nat → Nat} (hu : u ≤ a) : ∀ k, kp u f (stM f a R Bg k)
  | 0 => kp_rf
  | k + 1 => kp_upd (kp_upd (stM_kp hu k) (by omega)) (by omega)
theorem st_eq {n R : Nat} {Bg ln : Nat → Nat} {fi fs fk fI fB F G g : Nat → Int32} {b : Nat} (h : Core n R Bg ln fi fs fk fI fB) (hn : n ≤ 64) (hb : Bg R ≤ b) (hkp : kp (Bg R) fI G) (hag : ag b F G)
    (hg : ∀ k, k < 4 → g (2 * k) = nI (cN fI Bg (nI (k + 1)) R) >>> ((8 : Int32) &&& 31) ∧ g (2 * k + 1) = nI (cN fI Bg (nI (k + 1)) R) &&& 255) : ∀ k, k ≤ 4 → ag (b + 2 * k) (bdN F g b (2 * k)) (stM G b R Bg k)
  | 0, _ => hag
  | k + 1, hk => by
    have ih := st_eq h hn hb hkp hag hg k (by omega)
    have h1 := hg k (by omega)
    have h9 := (h.le (Nat.le_refl R)).2
    have h2 := h.2.1
    have e1 : cN (stM G b R Bg k) Bg (nI (k + 1)) R = cN fI Bg (nI (k + 1)) R := cN_congr R (fun j hj => by
      have h3 := h.in hj
      rw [stM_kp (u := Bg R) hb k (Bg j + 1) (by omega), hkp (Bg j + 1) (by omega)])
    have hc := cN_le fI Bg (nI (k + 1)) R
    rw [stM, e1, show 2 * (k + 1) = 2 * k + 1 + 1 from rfl, bdN, bdN, h1.1, h1.2, show b + (2 * k + 1 + 1) - 2 = b + 2 * k by omega, show b + (2 * k + 1 + 1) - 1 = b + 2 * k + 1 by omega]
    exact ag_push (ag_push ih (by8_hi (by omega))) (by8_and _)
theorem find_eq {n N K R : Nat} {Bg ln : Nat → Nat} {fi fs fk fI fB : Nat → Int32} {kind i : Int32} (hn : n ≤ 64) (hN : N = 32 * n) (hK : K = 32 * n / 9 + 1) (h : Core n R Bg ln fi fs fk fI fB) : ∀ (j k q : Nat), k + j = R → q ≤ k →
    loopE (nI (R + 1)) (fun number (before : Int32) => rw_nstep N K fi fs kind i number before) (fun _ => -1) (nI (k + 1)) (nI q) = fdN fI Bg kind i k q j
  | 0, k, q, hk, _ => by
    rw [loopE_exit (by rw [show k = R by omega]; exact Int32.le_refl _)]
    rfl
  | j + 1, k, q, hk, hq => by
    have h9 := (h.le (Nat.le_refl R)).2
    have h2 := h.2.1
    have h3 := h.in (j := k) (by omega)
    have hlt : ¬ nI (R + 1) ≤ nI (k + 1) := nI_ge (by omega) (by omega)
    have ek : rw_kindOf N K fi fs (nI (k + 1)) = fI (Bg k + 1) := by
      rw [rw_kind_n (by omega) (by omega) (by omega) (h.2.2.2.2.1 k (by omega)) (by omega), (h.2.2.2.2.2.1 (Bg k + 1) (by omega)).1]
    rw [fdN]
    by_cases c1 : fI (Bg k + 1) = kind
    · rw [if_pos c1]
      by_cases c2 : nI q = i
      · rw [if_pos c2]
        exact loopE_ret hlt (by unfold rw_nstep; rw [ek, if_pos c1, if_pos c2])
      · rw [if_neg c2, ← find_eq hn hN hK h j (k + 1) (q + 1) (by omega) (by omega), loopE_go (y := nI (q + 1)) hlt (by unfold rw_nstep; rw [ek, if_pos c1, if_neg c2, nI_1]), nI_1]
    · rw [if_neg c1, ← find_eq hn hN hK h j (k + 1) q (by omega) (by omega), loopE_go (y := nI q) hlt (by unfold rw_nstep; rw [ek, if_neg c1]), nI_1]
theorem numberOf_eq {n N K R : Nat} {Bg ln : Nat → Nat} {fi fs fk fI fB : Nat → Int32} {kind i : Int32} (hn : n ≤ 64) (hN : N = 32 * n) (hK : K = 32 * n / 9 + 1) (h : Core n R Bg ln fi fs fk fI fB) : rw_numberOf N K fi fs (nI R) kind i = fdN fI Bg kind i 0 0 R := by
  unfold rw_numberOf
  rw [nI_1]
  exact find_eq hn hN hK h R 0 0 (by omega) (Nat.le_refl 0)
theorem bsN_z {f : Nat → Int32} {a : Nat} {z : Int32} : ∀ j, bsN f a z j = z + bsN f a 0 j
  | 0 => (Int32.add_zero z).symm
  | j + 1 => by rw [bsN, bsN, bsN_z j, Int32.add_assoc]
theorem itN_bs {f : Nat → Int32} {a : Nat} : ∀ k, itN (fun j x => x + f (a + j)) 0 k 0 = bsN f a 0 k
  | 0 => rfl
  | k + 1 => by rw [itN, itN_bs k, bsN, Nat.zero_add]
theorem sumBytes_eq {n N K R k : Nat} {Bg ln : Nat → Nat} {fi fs fk fI fB : Nat → Int32} (hn : n ≤ 64) (hN : N = 32 * n) (hK : K = 32 * n / 9 + 1) (h : Core n R Bg ln fi fs fk fI fB) (hk : k < R) : rw_sumOfBytes N K fi fs (nI (k + 1)) = bsN fI (Bg k + 5) 0 (ln k) := by
  have h9 := (h.le (Nat.le_refl R)).2
  have h2 := h.2.1
  have h3 := h.in hk
  have h4 := (h.2.2.1 k hk).2
  unfold rw_sumOfBytes
  rw [rw_len_n (by omega) (by omega) (by omega) (h.2.2.2.2.1 k hk) (by omega), (h.2.2.2.2.2.1 (Bg k + 4) (by omega)).1, h4.2.1, show (0 : Int32) = nI 0 from rfl,
    loopE_it (fun j x => x + fI (Bg k + 5 + j)) (by omega) (ln k) 0 (nI 0) (by omega) (fun j y h1 h2 => by rw [rw_byte_n (by omega) (by omega) (by omega) (h.2.2.2.2.1 k hk) (by omega), (h.2.2.2.2.2.1 (Bg k + 5 + j) (by omega)).1])]
  exact itN_bs _
theorem total_eq {n N K R : Nat} {Bg ln : Nat → Nat} {fi fs fk fI fB : Nat → Int32} {kind from_ to_ : Int32} (hn : n ≤ 64) (hN : N = 32 * n) (hK : K = 32 * n / 9 + 1) (h : Core n R Bg ln fi fs fk fI fB) : sl_total N K fi fs (nI R) kind from_ to_ = toN fI Bg ln kind from_ to_ R := by
  have h9 := (h.le (Nat.le_refl R)).2
  have h2 := h.2.1
  obtain ⟨a, ha1, ha31, ea, hfa⟩ : ∃ a : Nat, 1 ≤ a ∧ a < 2 ^ 31 ∧ mmax 1 from_ = nI a ∧ ∀ k, k < 2 ^ 31 → 1 ≤ k → (nI k < from_ ↔ k < a) := by
    unfold mmax
    by_cases c : (1 : Int32) < from_
    · obtain ⟨a, ha, rfl⟩ := nI_of (x := from_) (Int32.not_lt.mpr (Int32.le_of_lt (Int32.lt_trans (by decide) c)))
      have : 1 < a := (nI_ltI (a := 1) (by omega) ha).mp c
      exact ⟨a, by omega, ha, if_pos c, fun k h1 h2 => nI_ltI h1 ha⟩
    · refine ⟨1, Nat.le_refl 1, by omega, if_neg c, fun k h1 h2 => ⟨fun q => ?_, fun q => by omega⟩⟩
      have h3 : nI k < 1 := Int32.lt_of_lt_of_le q (Int32.not_lt.mp c)
      exact absurd ((nI_ltI (b := 1) h1 (by omega)).mp h3) (by omega)
  by_cases ct : to_ < 0
  · have e1 : ∀ k, k ≤ R → toN fI Bg ln kind from_ to_ k = 0 := fun k => by
      induction k with
      | zero => exact fun _ => rfl
      | succ k ih =>
        intro hk
        have hw : mWithin (nI (k + 1)) from_ to_ = 0 := by
          unfold mWithin
          rw [if_pos (show to_ < nI (k + 1) from Int32.lt_of_lt_of_le ct (nI_pos' (by omega)))]
          split <;> rfl
        rw [toN, hw, if_pos rfl, ih (by omega)]
        split <;> rfl
    unfold sl_total
    rw [e1 R (Nat.le_refl R), ea, show mmin (nI R) to_ = to_ from if_pos (Int32.lt_of_lt_of_le ct (nI_pos' (by omega)))]
    refine loopE_exit ?_
    have h5 : (to_ + 1).toInt ≤ 0 := by
      have h6 := Int32.lt_iff_toInt_lt.mp ct
      rw [show (0 : Int32).toInt = 0 from by decide] at h6
      have h7 := Int32.le_toInt to_
      rw [Int32.toInt_add, show (1 : Int32).toInt = 1 from by decide, Int.bmod_eq_of_le (by omega) (by omega)]
      omega
    rw [Int32.le_iff_toInt_le, nI_toInt ha31]
    omega
  · obtain ⟨t, htR, et, hft⟩ : ∃ t : Nat, t ≤ R ∧ mmin (nI R) to_ = nI t ∧ ∀ k, k < R → (to_ < nI (k + 1) ↔ t < k + 1) := by
      unfold mmin
      by_cases c : to_ < nI R
      · obtain ⟨t, ht, rfl⟩ := nI_of (x := to_) ct
        have : t < R := (nI_ltI ht (by omega)).mp c
        exact ⟨t, by omega, if_pos c, fun k hk => nI_ltI ht (by omega)⟩
      · refine ⟨R, Nat.le_refl R, if_neg c, fun k hk => ⟨fun q => ?_, fun q => by omega⟩⟩
        exact absurd (Int32.lt_of_lt_of_le q (nI_le (show k + 1 ≤ R by omega) (by omega))) c
    have hw : ∀ k, k < R → (mWithin (nI (k + 1)) from_ to_ = 0 ↔ ¬ (a ≤ k + 1 ∧ k + 1 ≤ t)) := fun k hk => by
      unfold mWithin
      have f1 := hfa (k + 1) (by omega) (by omega)
      have f2 := hft k hk
      by_cases c1 : k + 1 < a
      · rw [if_pos (f1.mpr c1)]
        exact ⟨fun _ => by omega, fun _ => rfl⟩
      · rw [if_neg (fun q => c1 (f1.mp q))]
        by_cases c2 : t < k + 1
        · rw [if_pos (f2.mpr c2)]
          exact ⟨fun _ => by omega, fun _ => rfl⟩
        · rw [if_neg (fun q => c2 (f2.mp q))]
          exact ⟨fun z => absurd z (by decide), fun z => absurd ⟨by omega, by omega⟩ z⟩
    have e1 : ∀ k, k ≤ R → toN fI Bg ln kind from_ to_ k = itN (fun j x => if fI (Bg (j - 1) + 1) = kind then x + bsN fI (Bg (j - 1) + 5) 0 (ln (j - 1)) else x) a (min k t + 1 - a) 0 := fun k => by
      induction k with
      | zero =>
        intro _
        rw [show min 0 t + 1 - a = 0 by omega]
        rfl
      | succ k ih =>
        intro hk
        rw [toN, ih (by omega)]
        have f1 := hw k (by omega)
        by_cases c : a ≤ k + 1 ∧ k + 1 ≤ t
        · rw [if_neg (fun q => f1.mp q c), show min (k + 1) t + 1 - a = (min k t + 1 - a) + 1 by omega, itN, show a + (min k t + 1 - a) - 1 = k by omega, bsN_z]
        · rw [if_pos (f1.mpr c), show min (k + 1) t + 1 - a = min k t + 1 - a by omega]
          split <;> rfl
    unfold sl_total
    rw [e1 R (Nat.le_refl R), ea, et, nI_1, show min R t = t by omega]
    by_cases c : a ≤ t + 1
    · rw [loopE_it (fun j x => if fI (Bg (j - 1) + 1) = kind then x + bsN fI (Bg (j - 1) + 5) 0 (ln (j - 1)) else x) (by omega) (t + 1 - a) a 0 (by omega) (fun j y h1 h3 => by
        obtain ⟨i, rfl⟩ : ∃ i, j = i + 1 := ⟨j - 1, by omega⟩
        have h4 := h.in (j := i) (by omega)
        unfold sl_tstep
        rw [rw_kind_n (by omega) (by omega) (by omega) (h.2.2.2.2.1 i (by omega)) (by omega), (h.2.2.2.2.2.1 (Bg i + 1) (by omega)).1, sumBytes_eq hn hN hK h (by omega), Nat.add_sub_cancel]
        split <;> rfl)]
    · rw [loopE_exit (nI_le (by omega) ha31), show t + 1 - a = 0 by omega]
      rfl
def dk (n : Nat) (f g : Nat → Int32) : Prop := ag (32 * n) f g ∧ ∀ j, j < 2048 → by8 (g j)
theorem dk_upd {n i : Nat} {f g : Nat → Int32} {v : Int32} (h : dk n f g) (hv : by8 v) : dk n (upd f i v) (upd g i v) := ⟨ag_upd h.1 hv, fun j hj => by
  by_cases c : j = i
  · subst c
    rw [pk_us]
    exact hv
  · rw [pk_un c]
    exact h.2 j hj⟩
theorem dk_cp {n b : Nat} {f g t t' : Nat → Int32} (h : dk n f g) : ∀ k, (∀ p, b ≤ p → p < b + k → t p = t' p ∧ by8 (t' p)) → dk n (cpN f t b k) (cpN g t' b k)
  | 0, _ => h
  | k + 1, ht => by
    rw [cpN, cpN, (ht (b + k) (by omega) (by omega)).1]
    exact dk_upd (dk_cp h k (fun j h1 h2 => ht j h1 (by omega))) (ht (b + k) (by omega) (by omega)).2
theorem dk_Db {n : Nat} {f g : Nat → Int32} (h : dk n f g) : ∀ j, j < 2048 → g j = nI (g j).toNatClampNeg ∧ (g j).toNatClampNeg ≤ 255 := fun j hj => by8_cl (h.2 j hj)
