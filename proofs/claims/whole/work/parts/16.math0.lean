/-! MATHEMATICS: the class's cells as natural numbers -/
theorem nx_xor (a b : Nat) : nI a ^^^ nI b = nI (a ^^^ b) := by
  apply Int32.toBitVec_inj.1
  show BitVec.ofNat 32 a ^^^ BitVec.ofNat 32 b = BitVec.ofNat 32 (a ^^^ b)
  apply BitVec.eq_of_getLsbD_eq
  intro i hi
  simp [hi]
theorem nx_or8 {x y : Nat} (hx : x < 2 ^ 24) (hy : y < 256) : (nI x <<< ((8 : Int32) &&& 31)) ||| nI y = nI (256 * x + y) := by
  rw [pk_shlN ((8 : Int32) &&& 31) 8 (by decide) (by omega)]
  apply Int32.toBitVec_inj.mp
  rw [Int32.toBitVec_or]
  apply BitVec.eq_of_toNat_eq
  rw [BitVec.toNat_or, pk_tn (by omega), pk_tn (by omega), pk_tn (by omega), ← Nat.shiftLeft_eq, ← Nat.shiftLeft_add_eq_or_of_lt (b := y) (i := 8) hy, Nat.shiftLeft_eq]
  omega
theorem nI_eq32 {a b : Nat} (ha : a < 2 ^ 32) (hb : b < 2 ^ 32) : nI a = nI b ↔ a = b := ⟨fun h => by
  have h1 : (nI a).toBitVec.toNat = (nI b).toBitVec.toNat := by rw [h]
  rw [pk_tn ha, pk_tn hb] at h1
  exact h1, fun h => by rw [h]⟩
theorem nI_self (s : Int32) : ∃ w : Nat, w < 2 ^ 32 ∧ s = nI w := ⟨s.toBitVec.toNat, s.toBitVec.isLt, by
  apply Int32.toBitVec_inj.mp
  apply BitVec.eq_of_toNat_eq
  rw [pk_tn s.toBitVec.isLt]⟩
def by8 (x : Int32) : Prop := ∃ m : Nat, m ≤ 255 ∧ x = nI m
theorem by8_n {m : Nat} (h : m ≤ 255) : by8 (nI m) := ⟨m, h, rfl⟩
theorem by8_and (x : Int32) : by8 (x &&& 255) := by
  obtain ⟨j, hj, h⟩ := pk_andE x (m := 255) 8 (by decide)
  exact ⟨j, by omega, h⟩
theorem by8_xor {x y : Int32} (hx : by8 x) (hy : by8 y) : by8 (x ^^^ y) := by
  obtain ⟨a, ha, rfl⟩ := hx
  obtain ⟨b, hb, rfl⟩ := hy
  refine ⟨a ^^^ b, ?_, nx_xor a b⟩
  have := Nat.xor_lt_two_pow (n := 8) (show a < 2 ^ 8 by omega) (show b < 2 ^ 8 by omega)
  omega
theorem by8_cl {x : Int32} (h : by8 x) : x = nI x.toNatClampNeg ∧ x.toNatClampNeg ≤ 255 := by
  obtain ⟨m, hm, rfl⟩ := h
  rw [nI_clamp (by omega)]
  exact ⟨rfl, hm⟩
theorem by8_of {x : Int32} (h1 : ¬ x < 0) (h2 : x ≤ 255) : by8 x := nI_of2 (M := 255) (n := 255) (by decide) h1 h2
theorem ca_at_n {N i : Nat} {f : Nat → Int32} (h : i < N) (hN : N < 2 ^ 31) : ca_at N f (nI i) = f i := by
  unfold ca_at
  rw [if_neg (nI_pos (by omega)), if_neg (nI_ge h hN), nI_clamp (by omega)]
theorem ca_set_n {N i : Nat} {f : Nat → Int32} {v : Int32} (h : i < N) (hN : N < 2 ^ 31) : ca_set N f (nI i) v = upd f i v := by
  unfold ca_set
  rw [if_neg (nI_pos (by omega)), if_neg (nI_ge h hN), nI_clamp (by omega)]
/-! loops -/
def itN {S : Type} (F : Nat → S → S) (a : Nat) : Nat → S → S
  | 0, x => x
  | k + 1, x => F (a + k) (itN F a k x)
theorem itN_front {S : Type} (F : Nat → S → S) : ∀ (k a : Nat) (x : S), itN F a (k + 1) x = itN F (a + 1) k (F a x)
  | 0, a, x => rfl
  | k + 1, a, x => by
    rw [itN, itN_front F k a x, itN, show a + 1 + k = a + (k + 1) by omega]
theorem loopE_it {S : Type} {step : Int32 → S → S ⊕ S} (F : Nat → S → S) {b : Nat} (hb : b < 2 ^ 31) : ∀ (k a : Nat) (x : S), a + k = b → (∀ j y, a ≤ j → j < b → step (nI j) y = .inl (F j y)) → loopE (nI b) step id (nI a) x = itN F a k x
  | 0, a, x, h, _ => by
    rw [loopE_exit (by rw [show b = a by omega]; exact Int32.le_refl _)]
    rfl
  | k + 1, a, x, h, hs => by
    rw [loopE_go (nI_ge (by omega) hb) (hs a x (by omega) (by omega)), nI_1, loopE_it F hb k (a + 1) (F a x) (by omega) (fun j y h1 h2 => hs j y (by omega) h2), itN_front]
theorem itN_cp {f g : Nat → Int32} {a : Nat} : ∀ k, itN (fun j x => upd x j (g j)) a k f = cpN f g a k
  | 0 => rfl
  | k + 1 => by rw [itN, itN_cp k, cpN]
theorem ca_copy_n {N M a b : Nat} {f g : Nat → Int32} (hab : a ≤ b) (hbN : b ≤ N) (hbM : b ≤ M) (hN : N < 2 ^ 31) (hM : M < 2 ^ 31) : ca_copy N f M g (nI a) (nI b) = cpN f g a (b - a) := by
  unfold ca_copy
  rw [loopE_it (fun j x => upd x j (g j)) (by omega) (b - a) a f (by omega) (fun j y h1 h2 => by rw [ca_at_n (by omega) hM, ca_set_n (by omega) hN])]
  exact itN_cp _
theorem cpN_in {f g : Nat → Int32} {a p : Nat} : ∀ k, a ≤ p → p < a + k → cpN f g a k p = g p
  | 0, h1, h2 => absurd h2 (by omega)
  | k + 1, h1, h2 => by
    rw [cpN]
    by_cases c : p = a + k
    · rw [← c, pk_us]
    · rw [pk_un c]
      exact cpN_in k h1 (by omega)
theorem cpN_out {f g : Nat → Int32} {a p : Nat} : ∀ k, (p < a ∨ a + k ≤ p) → cpN f g a k p = f p
  | 0, _ => rfl
  | k + 1, h => by
    rw [cpN, pk_un (by omega)]
    exact cpN_out k (by omega)
theorem sN_congr {f g : Nat → Int32} {a : Nat} : ∀ k, (∀ p, a ≤ p → p < a + k → f p = g p) → sN f a k = sN g a k
  | 0, _ => rfl
  | k + 1, h => by rw [sN, sN, sN_congr k (fun p h1 h2 => h p h1 (by omega)), h (a + k) (by omega) (by omega)]
theorem itN_sum {f : Nat → Int32} {a : Nat} : ∀ k, itN (fun j x => sl_mix x (f j)) a k 1 = sN f a k
  | 0 => rfl
  | k + 1 => by rw [itN, itN_sum k, sN]
theorem sl_sum_n {N a m : Nat} {f : Nat → Int32} (h : a + 5 + m ≤ N) (hN : N < 2 ^ 31) : sl_sum N f (nI a) (nI m) = sN f (a + 1) (m + 4) := by
  unfold sl_sum
  rw [show nI a + 5 + nI m = nI (a + 5 + m) from by rw [show nI a + 5 = nI (a + 5) from nI_add a 5, nI_add], nI_1 a]
  rw [loopE_it (fun j x => sl_mix x (f j)) (by omega) (m + 4) (a + 1) 1 (by omega) (fun j y h1 h2 => by rw [ca_at_n (by omega) hN])]
  exact itN_sum _
theorem sh4 : ∀ j : Fin 4, (8 : Int32) * ((4 - 1) - nI j.1) = 24 - nI (8 * j.1) := by decide
theorem itN_cl {f : Nat → Int32} {b : Nat} {s : Int32} : ∀ k, itN (fun j x => upd x (b + j) ((ushr s (24 - (nI (8 * j)))) &&& 255)) 0 k f = clN f b s k
  | 0 => rfl
  | k + 1 => by rw [itN, itN_cl k, clN, Nat.zero_add]
theorem ca_setNum4 {N b : Nat} {f : Nat → Int32} {s : Int32} (h : b + 4 ≤ N) (hN : N < 2 ^ 31) : ca_setNum N f (nI b) 4 s = clN f b s 4 := by
  unfold ca_setNum
  rw [show (4 : Int32) = nI 4 from rfl, show (0 : Int32) = nI 0 from rfl]
  rw [loopE_it (fun j x => upd x (b + j) ((ushr s (24 - (nI (8 * j)))) &&& 255)) (by omega) 4 0 f (by omega) (fun j y h1 h2 => by rw [nI_add, ca_set_n (by omega) hN]; exact congrArg (fun q => Sum.inl (upd y (b + j) ((ushr s q) &&& 255))) (sh4 ⟨j, h2⟩))]
  exact itN_cl _
theorem hb8 {m : Nat} (h : m < 65536) : ((ushr (nI m) 8) &&& 255) = nI m >>> ((8 : Int32) &&& 31) := by
  show (((nI m).toUInt32 >>> ((8 : Int32).toUInt32 &&& Int32.toUInt32 31)).toInt32) &&& 255 = _
  rw [pk_ushrN (by omega) 8 8 (by decide), pk_andN (by omega) (m := 255) 8 (by decide), pk_shrN (by omega) ((8 : Int32) &&& 31) 8 (by decide)]
  exact congrArg nI (by omega)
theorem hb0 {m : Nat} (h : m < 65536) : ((ushr (nI m) 0) &&& 255) = nI m &&& 255 := by
  show (((nI m).toUInt32 >>> ((0 : Int32).toUInt32 &&& Int32.toUInt32 31)).toInt32) &&& 255 = _
  rw [pk_ushrN (by omega) 0 0 (by decide), Nat.pow_zero, Nat.div_one]
theorem by8_hi {m : Nat} (h : m < 65536) : by8 (nI m >>> ((8 : Int32) &&& 31)) := by
  rw [← hb8 h]
  exact by8_and _
theorem ca_setNum2 {N b m : Nat} {f : Nat → Int32} (h : b + 2 ≤ N) (hN : N < 2 ^ 31) (hm : m < 65536) : ca_setNum N f (nI b) 2 (nI m) = upd (upd f b (nI m >>> ((8 : Int32) &&& 31))) (b + 1) (nI m &&& 255) := by
  unfold ca_setNum
  rw [show (0 : Int32) = nI 0 from rfl, loopE_go (show ¬ (2 : Int32) ≤ nI 0 by decide) rfl, nI_1, loopE_go (show ¬ (2 : Int32) ≤ nI (0 + 1) by decide) rfl, nI_1, loopE_exit (show (2 : Int32) ≤ nI (0 + 1 + 1) by decide)]
  rw [nI_add, nI_add, ca_set_n (by omega) hN, ca_set_n (by omega) hN]
  rw [show (8 : Int32) * (2 - 1 - nI 0) = 8 by decide, show (8 : Int32) * (2 - 1 - nI (0 + 1)) = 0 by decide, hb8 hm, hb0 hm]
  rfl
theorem ca_num2 {N b x y : Nat} {f : Nat → Int32} (h : b + 2 ≤ N) (hN : N < 2 ^ 31) (h0 : f b = nI x) (hx : x ≤ 255) (h1 : f (b + 1) = nI y) (hy : y ≤ 255) : ca_num N f (nI b) 2 = nI (256 * x + y) := by
  unfold ca_num
  rw [show (0 : Int32) = nI 0 from rfl, loopE_go (show ¬ (2 : Int32) ≤ nI 0 by decide) rfl, nI_1, loopE_go (show ¬ (2 : Int32) ≤ nI (0 + 1) by decide) rfl, nI_1, loopE_exit (show (2 : Int32) ≤ nI (0 + 1 + 1) by decide)]
  rw [nI_add, nI_add, ca_at_n (by omega) hN, ca_at_n (by omega) hN, Nat.add_zero, Nat.zero_add, h0, h1, nx_or8 (by omega) (by omega), nx_or8 (by omega) (by omega)]
  exact congrArg nI (by omega)
theorem ca_num4 {N b x0 x1 x2 x3 : Nat} {f : Nat → Int32} (h : b + 4 ≤ N) (hN : N < 2 ^ 31) (h0 : f b = nI x0) (hx0 : x0 ≤ 255) (h1 : f (b + 1) = nI x1) (hx1 : x1 ≤ 255) (h2 : f (b + 2) = nI x2) (hx2 : x2 ≤ 255) (h3 : f (b + 3) = nI x3) (hx3 : x3 ≤ 255) : ca_num N f (nI b) 4 = nI (256 * (256 * (256 * x0 + x1) + x2) + x3) := by
  unfold ca_num
  rw [show (0 : Int32) = nI 0 from rfl, loopE_go (show ¬ (4 : Int32) ≤ nI 0 by decide) rfl, nI_1, loopE_go (show ¬ (4 : Int32) ≤ nI (0 + 1) by decide) rfl, nI_1, loopE_go (show ¬ (4 : Int32) ≤ nI (0 + 1 + 1) by decide) rfl, nI_1, loopE_go (show ¬ (4 : Int32) ≤ nI (0 + 1 + 1 + 1) by decide) rfl, nI_1, loopE_exit (show (4 : Int32) ≤ nI (0 + 1 + 1 + 1 + 1) by decide)]
  simp only [nI_add]
  rw [ca_at_n (by omega) hN, ca_at_n (by omega) hN, ca_at_n (by omega) hN, ca_at_n (by omega) hN, Nat.add_zero, Nat.zero_add, h0, h1, show b + (1 + 1) = b + 2 from rfl, h2, show b + (1 + 1 + 1) = b + 3 from rfl, h3, nx_or8 (by omega) (by omega), nx_or8 (by omega) (by omega), nx_or8 (by omega) (by omega), nx_or8 (by omega) (by omega)]
  exact congrArg nI (by omega)
theorem sby {w k : Nat} (hw : w < 2 ^ 32) (sh : Int32) (hs : ((sh.toUInt32 &&& Int32.toUInt32 31).toBitVec % 32).toNat = k) : (ushr (nI w) sh) &&& 255 = nI (w / 2 ^ k % 256) := by
  show (((nI w).toUInt32 >>> (sh.toUInt32 &&& Int32.toUInt32 31)).toInt32) &&& 255 = _
  have h1 : w / 2 ^ k ≤ w := Nat.div_le_self _ _
  rw [pk_ushrN hw sh k hs, pk_andN (by omega) (m := 255) 8 (by decide)]
theorem eqN_iff {b x0 x1 x2 x3 : Nat} {f : Nat → Int32} {s : Int32} (h0 : f b = nI x0) (hx0 : x0 ≤ 255) (h1 : f (b + 1) = nI x1) (hx1 : x1 ≤ 255) (h2 : f (b + 2) = nI x2) (hx2 : x2 ≤ 255) (h3 : f (b + 3) = nI x3) (hx3 : x3 ≤ 255) : eqN f b s 0 4 = true ↔ nI (256 * (256 * (256 * x0 + x1) + x2) + x3) = s := by
  obtain ⟨w, hw, rfl⟩ := nI_self s
  rw [nI_eq32 (by omega) hw]
  simp only [eqN, Nat.add_zero, Nat.zero_add]
  rw [show b + (1 + 1) = b + 2 from rfl, show b + (1 + 1 + 1) = b + 3 from rfl, h0, h1, h2, h3]
  rw [sby (k := 24) hw _ (by decide), sby (k := 16) hw _ (by decide), sby (k := 8) hw _ (by decide), sby (k := 0) hw _ (by decide)]
  by_cases c0 : x0 = w / 2 ^ 24 % 256
  · rw [if_pos (congrArg nI c0)]
    by_cases c1 : x1 = w / 2 ^ 16 % 256
    · rw [if_pos (congrArg nI c1)]
      by_cases c2 : x2 = w / 2 ^ 8 % 256
      · rw [if_pos (congrArg nI c2)]
        by_cases c3 : x3 = w / 2 ^ 0 % 256
        · rw [if_pos (congrArg nI c3)]
          exact ⟨fun _ => by omega, fun _ => rfl⟩
        · rw [if_neg (fun q => c3 ((nI_eq32 (by omega) (by omega)).mp q))]
          exact ⟨(fun q => nomatch q), fun q => absurd (show x3 = w / 2 ^ 0 % 256 by omega) c3⟩
      · rw [if_neg (fun q => c2 ((nI_eq32 (by omega) (by omega)).mp q))]
        exact ⟨(fun q => nomatch q), fun q => absurd (show x2 = w / 2 ^ 8 % 256 by omega) c2⟩
    · rw [if_neg (fun q => c1 ((nI_eq32 (by omega) (by omega)).mp q))]
      exact ⟨(fun q => nomatch q), fun q => absurd (show x1 = w / 2 ^ 16 % 256 by omega) c1⟩
  · rw [if_neg (fun q => c0 ((nI_eq32 (by omega) (by omega)).mp q))]
    exact ⟨(fun q => nomatch q), fun q => absurd (show x0 = w / 2 ^ 24 % 256 by omega) c0⟩
/-! all zero from a place on -/
theorem zN_front {f : Nat → Int32} : ∀ (k a : Nat), zN f a (k + 1) = if f a = 0 then zN f (a + 1) k else 0
  | 0, a => by simp only [zN, Nat.add_zero]
  | k + 1, a => by
    rw [zN, zN_front k a]
    by_cases c : f a = 0
    · rw [if_pos c, if_pos c, zN, show a + 1 + k = a + (k + 1) by omega]
    · rw [if_neg c, if_neg c]
      split <;> rfl
theorem ca_isZero_n {N : Nat} {f : Nat → Int32} (hN : N < 2 ^ 31) : ∀ (k a : Nat), a + k = N → ca_isZero N f (nI a) = zN f a k
  | 0, a, h => by
    unfold ca_isZero
    rw [loopE_exit (by rw [show N = a by omega]; exact Int32.le_refl _)]
    rfl
  | k + 1, a, h => by
    have ih := ca_isZero_n (f := f) hN k (a + 1) (by omega)
    rw [zN_front, ← ih]
    unfold ca_isZero
    by_cases c : f a = 0
    · rw [if_pos c, loopE_go (y := ()) (nI_ge (by omega) hN) (by rw [ca_at_n (by omega) hN, if_pos c]), nI_1]
    · rw [if_neg c, loopE_ret (r := 0) (nI_ge (by omega) hN) (by rw [ca_at_n (by omega) hN, if_neg c])]
theorem zN_congr {f g : Nat → Int32} {a : Nat} : ∀ k, (∀ p, a ≤ p → p < a + k → f p = g p) → zN f a k = zN g a k
  | 0, _ => rfl
  | k + 1, h => by rw [zN, zN, zN_congr k (fun p h1 h2 => h p h1 (by omega)), h (a + k) (by omega) (by omega)]
