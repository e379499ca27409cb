/-! rows dropped; the next row judged; the disk read -/
theorem rw_dec_n {fk : Nat → Int32} {q : Nat} (hq : q < 6) : rw_dec fk (nI q) = upd fk q (fk q - 1) := by
  unfold rw_dec
  rw [ca_at_n (by omega) (by omega), ca_set_n (by omega) (by omega)]
theorem core_drop {n N K R S : Nat} {Bg ln : Nat → Nat} {fi fs fk fI fB : Nat → Int32} (hn : n ≤ 64) (hN : N = 32 * n) (hK : K = 32 * n / 9 + 1) (h : Core n R Bg ln fi fs fk fI fB) (hS : S ≤ R) :
    Core n S Bg ln fi fs (rw_drop N K fi fs fk (nI R) (nI S)) fI fB := by
  have hle := h.le hS
  have h9 := (h.le (Nat.le_refl R)).2
  have hR := h.2.1
  refine ⟨h.1, by omega, fun j hj => h.2.2.1 j (by omega), fun j hj => h.2.2.2.1 j (by omega), fun j hj => h.2.2.2.2.1 j (by omega), ag_le h.2.2.2.2.2.1 (by omega), fun k hk1 hk5 => ?_⟩
  unfold rw_drop
  rw [nI_1 R, nI_1 S, loopE_it (fun j x => rw_dec x (fI (Bg (j - 1) + 1))) (by omega) (R - S) (S + 1) fk (by omega) (fun j y h1 h2 => by
    obtain ⟨i, rfl⟩ : ∃ i, j = i + 1 := ⟨j - 1, by omega⟩
    have h3 := h.in (j := i) (by omega)
    rw [rw_kind_n (by omega) (by omega) (by omega) (h.2.2.2.2.1 i (by omega)) (by omega), (h.2.2.2.2.2.1 (Bg i + 1) (by omega)).1, Nat.add_sub_cancel])]
  have key : ∀ d, d ≤ R - S → ∀ k, 1 ≤ k → k ≤ 5 → itN (fun j x => rw_dec x (fI (Bg (j - 1) + 1))) (S + 1) d fk k = nI (cN fI Bg (nI k) R + cN fI Bg (nI k) S - cN fI Bg (nI k) (S + d)) := by
    intro d
    induction d with
    | zero =>
      intro _ k hk1 hk5
      rw [itN, Nat.add_zero, Nat.add_sub_cancel]
      exact h.2.2.2.2.2.2 k hk1 hk5
    | succ d ih =>
      intro hd k hk1 hk5
      obtain ⟨_, _, _, q, hq1, hq5, hq⟩ := h.2.2.1 (S + d) (by omega)
      rw [itN, show S + 1 + d - 1 = S + d by omega, hq, rw_dec_n (by omega), show S + (d + 1) = S + d + 1 from rfl, cN, hq]
      by_cases c : k = q
      · subst c
        rw [pk_us, ih (by omega) k hk1 hk5, if_pos rfl]
        have hm := cN_mono (f := fI) (B := Bg) (kind := nI k) (S + d + 1) (R - (S + d + 1))
        rw [show S + d + 1 + (R - (S + d + 1)) = R by omega, cN, hq, if_pos rfl] at hm
        rw [show (1 : Int32) = nI 1 from rfl, pk_sub (by omega)]
        exact congrArg nI (by omega)
      · rw [pk_un c, if_neg (fun z => c ((nI_eq (by omega) (by omega)).mp z).symm)]
        exact ih (by omega) k hk1 hk5
  rw [key (R - S) (Nat.le_refl _) k hk1 hk5, show S + (R - S) = R by omega, Nat.add_comm, Nat.add_sub_cancel]
def cv (w : Int32) : Int32 := if w = 0 then -1 else if w = 7 then 0 else w
theorem num2R {x y : Nat} {u v : Int32} (hu : u = nI x) (hv : v = nI y) : (256 * u) + v = nI (256 * x + y) := by
  rw [hu, hv, show (256 : Int32) * nI x = nI (256 * x) from pk_mul 256 x, nI_add]
theorem isState_eq {n N R a : Nat} {Bg Db : Nat → Nat} {fd fk fD fI : Nat → Int32} (hn : n ≤ 64) (hN : N = 32 * n) (ha : a + 8 ≤ 32 * n) (hk : ∀ k, 1 ≤ k → k ≤ 5 → fk k = nI (cN fI Bg (nI k) R)) (hD : ag (32 * n) fd fD) (hDb : ∀ j, j < 2048 → fD j = nI (Db j) ∧ Db j ≤ 255) : ∀ (j k : Nat), k + j = 5 → 1 ≤ k →
    loopE 5 (fun kind (_ : Unit) => if ca_num N fd (nI a + (2 * (kind - 1))) 2 = ca_at 6 fk kind then (.inl () : Unit ⊕ Int32) else .inr 0) (fun _ => 1) (nI k) () = crN fD a (fun k => cN fI Bg (nI k) R) k j
  | 0, k, h, _ => by
    rw [show k = 5 by omega, loopE_exit (show (5 : Int32) ≤ nI 5 by decide)]
    rfl
  | j + 1, k, h, h1 => by
    have ih := isState_eq hn hN ha hk hD hDb j (k + 1) (by omega) (by omega)
    have hp0 := hDb (a + 2 * (k - 1)) (by omega)
    have hp1 := hDb (a + 2 * (k - 1) + 1) (by omega)
    have e1 : ca_num N fd (nI a + (2 * (nI k - 1))) 2 = nI (256 * Db (a + 2 * (k - 1)) + Db (a + 2 * (k - 1) + 1)) := by
      rw [show (1 : Int32) = nI 1 from rfl, pk_sub h1, show (2 : Int32) * nI (k - 1) = nI (2 * (k - 1)) from pk_mul 2 (k - 1), nI_add]
      exact ca_num2 (by omega) (by omega) ((hD _ (by omega)).1.trans hp0.1) hp0.2 ((hD _ (by omega)).1.trans hp1.1) hp1.2
    have e2 : (256 * (fD (a + 2 * k - 2))) + (fD (a + 2 * k - 1)) = nI (256 * Db (a + 2 * (k - 1)) + Db (a + 2 * (k - 1) + 1)) := by
      rw [show a + 2 * k - 2 = a + 2 * (k - 1) by omega, show a + 2 * k - 1 = a + 2 * (k - 1) + 1 by omega]
      exact num2R hp0.1 hp1.1
    have hlt : ¬ (5 : Int32) ≤ nI k := nI_ge (b := 5) (by omega) (by omega)
    rw [crN, e2]
    by_cases c : nI (256 * Db (a + 2 * (k - 1)) + Db (a + 2 * (k - 1) + 1)) = nI (cN fI Bg (nI k) R)
    · rw [if_pos c, ← ih, loopE_go (y := ()) hlt (by rw [e1, ca_at_n (by omega) (by omega), hk k h1 (by omega), if_pos c]), nI_1]
    · rw [if_neg c, loopE_ret (r := 0) hlt (by rw [e1, ca_at_n (by omega) (by omega), hk k h1 (by omega), if_neg c])]
theorem judge_eq {n N R a : Nat} {Bg Db : Nat → Nat} {fd fk fD fI : Nat → Int32} (hn : n ≤ 64) (hN : N = 32 * n) (ha : a ≤ 32 * n) (hk : ∀ k, 1 ≤ k → k ≤ 5 → fk k = nI (cN fI Bg (nI k) R)) (hD : ag (32 * n) fd fD) (hDb : ∀ j, j < 2048 → fD j = nI (Db j) ∧ Db j ≤ 255) :
    rw_judge N fd fk (nI R) (nI a) = cv (lkN n fD fI Db Bg R a) := by
  have hN31 : N < 2 ^ 31 := by omega
  have at_ : ∀ p, p < 32 * n → ca_at N fd (nI p) = fD p := fun p hp => by
    rw [ca_at_n (by omega) hN31]
    exact (hD p hp).1
  have fd_ : ∀ p, p < 32 * n → fd p = nI (Db p) := fun p hp => (hD p hp).1.trans (hDb p (by omega)).1
  have db_ : ∀ p, p < 32 * n → Db p ≤ 255 := fun p hp => (hDb p (by omega)).2
  unfold rw_judge lkN
  rw [ca_isZero_n hN31 (32 * n - a) a (by omega), zN_congr (g := fD) (32 * n - a) (fun p h1 h2 => (hD p (by omega)).1)]
  by_cases c1 : zN fD a (32 * n - a) = 0
  · rw [if_pos c1, if_pos c1]
    have hz := zN_pos c1
    rw [at_ a (by omega)]
    by_cases c2 : fD a = 90
    · rw [if_pos c2, if_pos c2, show nI a + 4 = nI (a + 4) from nI_add a 4, show nI a + 2 = nI (a + 2) from nI_add a 2, show nI a + 5 = nI (a + 5) from nI_add a 5, show nI a + 9 = nI (a + 9) from nI_add a 9, nI_1 a, nI_1 R]
      by_cases c3 : a + 5 ≤ 32 * n
      · rw [if_pos c3, if_pos (nI_lt (by omega) hN31), at_ (a + 1) (by omega), at_ (a + 4) (by omega)]
        by_cases c4 : mWithin (fD (a + 1)) 1 5 = 0
        · rw [if_pos c4, if_pos (show sl_isKind (fD (a + 1)) = 0 from c4)]
          rfl
        · rw [if_neg c4, if_neg (show ¬ sl_isKind (fD (a + 1)) = 0 from c4)]
          rw [ca_num2 (by omega) hN31 (fd_ (a + 2) (by omega)) (db_ (a + 2) (by omega)) (fd_ (a + 2 + 1) (by omega)) (db_ (a + 2 + 1) (by omega)), num2R (hDb (a + 2) (by omega)).1 (hDb (a + 3) (by omega)).1]
          by_cases c5 : nI (256 * Db (a + 2) + Db (a + 3)) = nI (R + 1)
          · rw [if_pos c5, if_pos (show nI (256 * Db (a + 2) + Db (a + 2 + 1)) = nI (R + 1) from c5), (hDb (a + 4) (by omega)).1]
            have d4 := db_ (a + 4) (by omega)
            by_cases c6 : 20 < Db (a + 4)
            · rw [if_pos c6, if_pos (show (20 : Int32) < nI (Db (a + 4)) from nI_lt (a := 20) c6 (by omega))]
              rfl
            · rw [if_neg c6, if_neg (show ¬ (20 : Int32) < nI (Db (a + 4)) from nI_nlt (b := Db (a + 4)) (a := 20) (by omega) (by omega)), nI_add, nI_add]
              by_cases c7 : (a + 9) + Db (a + 4) ≤ 32 * n
              · rw [if_pos c7, if_pos (nI_le (by omega) hN31)]
                rw [ca_num4 (by omega) hN31 (fd_ (a + 5 + Db (a + 4)) (by omega)) (db_ (a + 5 + Db (a + 4)) (by omega)) (fd_ (a + 5 + Db (a + 4) + 1) (by omega)) (db_ (a + 5 + Db (a + 4) + 1) (by omega)) (fd_ (a + 5 + Db (a + 4) + 2) (by omega)) (db_ (a + 5 + Db (a + 4) + 2) (by omega)) (fd_ (a + 5 + Db (a + 4) + 3) (by omega)) (db_ (a + 5 + Db (a + 4) + 3) (by omega)), sl_sum_n (by omega) hN31, ag_sum hD (by omega)]
                have hE := eqN_iff (f := fD) (b := a + 5 + Db (a + 4)) (s := sN fD (a + 1) (Db (a + 4) + 4)) (hDb _ (by omega)).1 (hDb _ (by omega)).2 (hDb _ (by omega)).1 (hDb _ (by omega)).2 (hDb _ (by omega)).1 (hDb _ (by omega)).2 (hDb _ (by omega)).1 (hDb _ (by omega)).2
                rw [show a + 5 + Db (a + 4) - (a + 1) = Db (a + 4) + 4 by omega]
                by_cases c8 : eqN fD (a + 5 + Db (a + 4)) (sN fD (a + 1) (Db (a + 4) + 4)) 0 4 = true
                · rw [if_pos c8, if_pos (hE.mp c8)]
                  by_cases c9 : fD (a + 1) = 5
                  · rw [if_pos c9, if_pos c9]
                    unfold rw_isState
                    by_cases c0 : Db (a + 4) = 8
                    · have eS := isState_eq (a := a + 5) hn hN (by omega) hk hD hDb 4 1 rfl (Nat.le_refl 1)
                      rw [if_pos c0, if_pos (show nI (Db (a + 4)) = 8 by rw [c0]; rfl), show loopE 5 (fun kind (_ : Unit) => if ca_num N fd (nI (a + 5) + (2 * (kind - 1))) 2 = ca_at 6 fk kind then (.inl () : Unit ⊕ Int32) else .inr 0) (fun _ => 1) 1 () = crN fD (a + 5) (fun k => cN fI Bg (nI k) R) 1 4 from eS]
                      split <;> rfl
                    · rw [if_neg c0, if_neg (show ¬ nI (Db (a + 4)) = 8 from fun q => c0 ((nI_eq (b := 8) (by omega) (by omega)).mp q))]
                      rfl
                  · rw [if_neg c9, if_neg c9]
                    rfl
                · rw [if_neg c8, if_neg (fun q => c8 (hE.mpr q))]
                  rfl
              · rw [if_neg c7, if_neg (nI_ge (by omega) (by omega))]
                rfl
          · rw [if_neg c5, if_neg (show ¬ nI (256 * Db (a + 2) + Db (a + 2 + 1)) = nI (R + 1) from c5)]
            rfl
      · rw [if_neg c3, if_neg (nI_nlt (by omega) (by omega))]
        rfl
    · rw [if_neg c2, if_neg c2]
      rfl
  · rw [if_neg c1, if_neg c1]
    rfl
theorem lk_ne {n : Nat} {fD fI : Nat → Int32} {Db Bg : Nat → Nat} {R a : Nat} : ¬ lkN n fD fI Db Bg R a = -1 := by
  unfold lkN
  repeat' split
  all_goals decide
theorem lk_ok {n : Nat} {fD fI : Nat → Int32} {Db Bg : Nat → Nat} {R a : Nat} (h : lkN n fD fI Db Bg R a = 0) : a < 32 * n ∧ ¬ mWithin (fD (a + 1)) 1 5 = 0 ∧ ¬ 20 < Db (a + 4) := by
  unfold lkN at h
  by_cases c1 : zN fD a (32 * n - a) = 0
  · rw [if_pos c1] at h
    have hz := zN_pos c1
    by_cases c2 : fD a = 90
    · rw [if_pos c2] at h
      by_cases c3 : a + 5 ≤ 32 * n
      · rw [if_pos c3] at h
        by_cases c4 : mWithin (fD (a + 1)) 1 5 = 0
        · rw [if_pos c4] at h; exact absurd h (by decide)
        · rw [if_neg c4] at h
          by_cases c5 : (256 * (fD (a + 2))) + (fD (a + 3)) = nI (R + 1)
          · rw [if_pos c5] at h
            by_cases c6 : 20 < Db (a + 4)
            · rw [if_pos c6] at h; exact absurd h (by decide)
            · exact ⟨by omega, c4, c6⟩
          · rw [if_neg c5] at h; exact absurd h (by decide)
      · rw [if_neg c3] at h; exact absurd h (by decide)
    · rw [if_neg c2] at h; exact absurd h (by decide)
  · rw [if_neg c1] at h; exact absurd h (by decide)
theorem within_n {x : Int32} {q lo hi : Nat} (hx : x = nI q) (hq : q < 2 ^ 31) (hlo : lo < 2 ^ 31) (hhi : hi < 2 ^ 31) : (mWithin x (nI lo) (nI hi) = 0 ↔ ¬ (lo ≤ q ∧ q ≤ hi)) := by
  subst hx
  unfold mWithin
  by_cases c1 : q < lo
  · rw [if_pos (nI_lt c1 hlo)]
    exact ⟨fun _ => by omega, fun _ => rfl⟩
  · rw [if_neg (nI_nlt (by omega) hq)]
    by_cases c2 : hi < q
    · rw [if_pos (nI_lt c2 hq)]
      exact ⟨fun _ => by omega, fun _ => rfl⟩
    · rw [if_neg (nI_nlt (by omega) hhi)]
      exact ⟨fun z => absurd z (by decide), fun z => absurd ⟨by omega, by omega⟩ z⟩
theorem cv_ne {w : Int32} (h0 : ¬ w = 0) (h1 : ¬ w = -1) : ¬ cv w = -1 := by
  unfold cv
  rw [if_neg h0]
  split
  · decide
  · exact h1
theorem read_eq {n N K : Nat} {Db : Nat → Nat} {fd fD : Nat → Int32} (hn1 : 1 ≤ n) (hn : n ≤ 64) (hN : N = 32 * n) (hK : K = 32 * n / 9 + 1) (hD : ag (32 * n) fd fD) (hDb : ∀ j, j < 2048 → fD j = nI (Db j) ∧ Db j ≤ 255) : ∀ (f R : Nat) (Bg ln : Nat → Nat) (fi fs fk fI fB : Nat → Int32), Core n R Bg ln fi fs fk fI fB → 32 * n - Bg R ≤ f →
    ∃ (R' : Nat) (Bg' ln' : Nat → Nat) (fi' fs' fk' fI' fB' : Nat → Int32) (w : Int32), rdN n fD Db (f + 1) (fI, fB, Bg, R, Bg R) = ((fI', fB', Bg', R', Bg' R'), w) ∧
      loopE (nI N) (fun _ (y : RS × Int32) => rw_rstep N K N fd y) id (nI R) ((fi, fs, fk, nI R, nI (Bg R)), cv (lkN n fD fI Db Bg R (Bg R))) = ((fi', fs', fk', nI R', nI (Bg' R')), cv w) ∧ ¬ w = 0 ∧ Core n R' Bg' ln' fi' fs' fk' fI' fB' := by
  intro f
  induction f with
  | zero =>
    intro R Bg ln fi fs fk fI fB h hf
    have hle := h.2.1
    have h9 := (h.le (Nat.le_refl R)).2
    have hw : ¬ lkN n fD fI Db Bg R (Bg R) = 0 := fun q => by
      have := (lk_ok q).1
      omega
    refine ⟨R, Bg, ln, fi, fs, fk, fI, fB, lkN n fD fI Db Bg R (Bg R), ?_, ?_, hw, h⟩
    · rw [rdN, if_neg hw]
    · exact loopE_ret (nI_ge (by omega) (by omega)) (by unfold rw_rstep; exact if_neg (cv_ne hw lk_ne))
  | succ f ih =>
    intro R Bg ln fi fs fk fI fB h hf
    have hle := h.2.1
    have h9 := (h.le (Nat.le_refl R)).2
    by_cases hw : lkN n fD fI Db Bg R (Bg R) = 0
    · obtain ⟨hlt, hkw, hm20⟩ := lk_ok hw
      have hfit := lk_fit hw
      have hm : Db (Bg R + 4) ≤ 20 := by omega
      obtain ⟨k, hk1, hk5, hkd⟩ : ∃ k, 1 ≤ k ∧ k ≤ 5 ∧ fD (Bg R + 1) = nI k := by
        have h1 := hDb (Bg R + 1) (by omega)
        have h2 : 1 ≤ Db (Bg R + 1) ∧ Db (Bg R + 1) ≤ 5 := Decidable.byContradiction (fun q => hkw ((within_n (lo := 1) (hi := 5) h1.1 (by omega) (by omega) (by omega)).mpr q))
        exact ⟨Db (Bg R + 1), by omega, by omega, h1.1⟩
      have hcp : rw_cpI N N fi fd (nI (Bg R)) = cpN fi fd (Bg R) (9 + Db (Bg R + 4)) := by
        unfold rw_cpI
        rw [show nI (Bg R) + 4 = nI (Bg R + 4) from nI_add _ 4, ca_at_n (by omega) (by omega), (hD (Bg R + 4) (by omega)).1, (hDb (Bg R + 4) (by omega)).1, show nI (Bg R) + 9 = nI (Bg R + 9) from nI_add _ 9, nI_add, ca_copy_n (by omega) (by omega) (by omega) (by omega) (by omega)]
        exact congrArg _ (by omega)
      obtain ⟨hC, hU⟩ := core_push (fi' := cpN fi fd (Bg R) (9 + Db (Bg R + 4))) (fI' := cpN fI fD (Bg R) (9 + Db (Bg R + 4))) hn hN hK h hk1 hk5 hm hfit (kp_cp kp_rf (Nat.le_refl _) _)
        (by rw [Nat.add_assoc]; exact ag_cp h.2.2.2.2.2.1 _ (fun p h1 h2 => hD p (by omega))) ((cpN_in _ (by omega) (by omega)).trans hkd) ((cpN_in _ (by omega) (by omega)).trans (hDb (Bg R + 4) (by omega)).1)
      obtain ⟨R', Bg', ln', fi', fs', fk', fI', fB', w, e1, e2, e3, e4⟩ := ih _ _ _ _ _ _ _ _ hC (by rw [uN_s]; omega)
      refine ⟨R', Bg', ln', fi', fs', fk', fI', fB', w, ?_, ?_, e3, e4⟩
      · rw [rdN, if_pos hw]
        rw [uN_s] at e1
        exact e1
      · refine Eq.trans ?_ e2
        refine (loopE_go (y := ((cpN fi fd (Bg R) (9 + Db (Bg R + 4)), rw_enS K fs (nI R) (nI (Bg R)), rw_enK N K (cpN fi fd (Bg R) (9 + Db (Bg R + 4))) fs fk (nI R) (nI (Bg R)), nI (R + 1), nI (updN Bg (R + 1) (Bg R + 9 + Db (Bg R + 4)) (R + 1))), cv (lkN n fD (cpN fI fD (Bg R) (9 + Db (Bg R + 4))) Db (updN Bg (R + 1) (Bg R + 9 + Db (Bg R + 4))) (R + 1) (updN Bg (R + 1) (Bg R + 9 + Db (Bg R + 4)) (R + 1))))) (nI_ge (by omega) (by omega)) ?_).trans (by rw [nI_1])
        unfold rw_rstep
        rw [hw, if_pos (show cv 0 = -1 from rfl)]
        have e5 : rw_take N K N fd (fi, fs, fk, nI R, nI (Bg R)) = (cpN fi fd (Bg R) (9 + Db (Bg R + 4)), rw_enS K fs (nI R) (nI (Bg R)), rw_enK N K (cpN fi fd (Bg R) (9 + Db (Bg R + 4))) fs fk (nI R) (nI (Bg R)), nI (R + 1), nI (updN Bg (R + 1) (Bg R + 9 + Db (Bg R + 4)) (R + 1))) := by
          unfold rw_take
          rw [uN_s, hcp, hU, nI_1]
        rw [e5]
        exact congrArg (fun q => Sum.inl (_, q)) (judge_eq hn hN hC.2.1 hC.2.2.2.2.2.2 hD hDb)
    · refine ⟨R, Bg, ln, fi, fs, fk, fI, fB, lkN n fD fI Db Bg R (Bg R), ?_, ?_, hw, h⟩
      · rw [rdN, if_neg hw]
      · exact loopE_ret (nI_ge (by omega) (by omega)) (by unfold rw_rstep; exact if_neg (cv_ne hw lk_ne))
theorem slread_eq {n N K R : Nat} {Bg ln Db : Nat → Nat} {fd fD fi fs fk fI fB : Nat → Int32} (hn1 : 1 ≤ n) (hn : n ≤ 64) (hN : N = 32 * n) (hK : K = 32 * n / 9 + 1) (hD : ag (32 * n) fd fD) (hDb : ∀ j, j < 2048 → fD j = nI (Db j) ∧ Db j ≤ 255) (h : Core n R Bg ln fi fs fk fI fB) :
    ∃ (R' : Nat) (Bg' ln' : Nat → Nat) (fi' fs' fk' fI' fB' : Nat → Int32) (w : Int32), rdN n fD Db (32 * n + 1) (fI, fB, Bg, 0, 0) = ((fI', fB', Bg', R', Bg' R'), w) ∧ sl_read N K fd fi fs fk (nI R) = ((fi', fs', fk', nI R', nI (Bg' R')), if w = 7 then 0 else w) ∧ Core n R' Bg' ln' fi' fs' fk' fI' fB' := by
  have h0 := core_drop hn hN hK h (Nat.zero_le R)
  obtain ⟨R', Bg', ln', fi', fs', fk', fI', fB', w, e1, e2, e3, e4⟩ := read_eq hn1 hn hN hK hD hDb (32 * n) 0 _ _ _ _ _ _ _ h0 (by omega)
  refine ⟨R', Bg', ln', fi', fs', fk', fI', fB', w, ?_, ?_, e4⟩
  · rw [h.1] at e1
    exact e1
  · unfold sl_read rw_read
    rw [show (if w = 7 then 0 else w) = cv w by unfold cv; rw [if_neg e3], ← e2, ← judge_eq hn hN h0.2.1 h0.2.2.2.2.2.2 hD hDb, h.1]
    rfl
