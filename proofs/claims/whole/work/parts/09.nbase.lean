/-! THE REFERENCE: its places are natural numbers; what is written is as it comes -/
section KN
variable {p : Program} {l : Launch} {e : Env} {R : Room} {s : State} {m : MethodId} {args : Array Value} {below : List Frame} {meth : Method} {c : Code} {H : Heap} {locs : List Loc} {cells slots : Nat} {Q : State → Prop}
variable {dC : Nat → ClassId} {dI : Nat → Nat → Nat} {cI cJ : ClassId} {ws ws' : va_W} {A : Nat → Prop} {pc : Nat} {ls : Array Slot} {rest : List Value}
theorem k_nrm {x y : Int32} (h : x = y) (k : W p l e R s m args below meth c H locs cells slots Q (F0 m pc ls (.int y :: rest))) : W p l e R s m args below meth c H locs cells slots Q (F0 m pc ls (.int x :: rest)) := by rw [h]; exact k
theorem k_ialdn {cc : ByteArray} (hexec : p.tables.exec = Jvm.exec) (hb : c.code = cc) {a : Nat} (hK : gK dC dI cI cJ s) (hP : va_P (dC, dI) vwCl ws H) (q0 : Nat) {n i : Nat} {f : Nat → Int32} (ha : ws[q0]? = some (a, .inl (cI, n, .inl f))) (hin : i < n) (hn : n < 2 ^ 31) (hdg : decode cc pc = .ok (.iaload, 1))
    (kk : W p l e R s m args below meth c H locs cells slots Q (F0 m (pc + 1) ls (.int (f i) :: rest))) : W p l e R s m args below meth c H locs cells slots Q (F0 m pc ls (.int (nI i) :: .ref a :: rest)) := by
  refine k_iald hexec hb hK hP q0 ha (vp_in_nI hin hn) hdg ?_
  rw [nI_clamp (Nat.lt_trans hin hn)]
  exact kk
theorem k_iastn {cc : ByteArray} (hexec : p.tables.exec = Jvm.exec) (hb : c.code = cc) {a : Nat} (hK : gK dC dI cI cJ s) (hP : va_P (dC, dI) vwCl ws H) (hD : va_D A ws) (hS : va_S A s.heap H locs) (q0 : Nat) {n j : Nat} {f : Nat → Int32} (ha : ws[q0]? = some (a, .inl (cI, n, .inl f))) {i x : Int32} (hi : i = nI j) (hin : j < n) (hn : n < 2 ^ 31) (hdg : decode cc pc = .ok (.iastore, 1)) (hset : ws.set q0 (a, .inl (cI, n, .inl (upd f j x))) = ws')
    (kk : ∀ (H1 : Heap) (locs1 : List Loc), va_P (dC, dI) vwCl ws' H1 → va_D A ws' → va_S A s.heap H1 locs1 → W p l e R s m args below meth c H1 locs1 cells slots Q (F0 m (pc + 1) ls rest)) : W p l e R s m args below meth c H locs cells slots Q (F0 m pc ls (.int x :: .int i :: .ref a :: rest)) := by
  subst hi
  refine k_iast hexec hb hK hP hD hS q0 ha (vp_in_nI hin hn) hdg ?_ kk
  rw [nI_clamp (Nat.lt_trans hin hn)]
  exact hset
end KN
def mWithin (x a b : Int32) : Int32 := if x < a then 0 else if b < x then 0 else 1
/-- the sum of k bytes from a on -/
def sN (f : Nat → Int32) (a : Nat) : Nat → Int32
  | 0 => 1
  | k + 1 => sl_mix (sN f a k) (f (a + k))
/-- how many of the first u rows are of a kind -/
def cN (fI : Nat → Int32) (B : Nat → Nat) (kind : Int32) : Nat → Nat
  | 0 => 0
  | k + 1 => if fI (B k + 1) = kind then cN fI B kind k + 1 else cN fI B kind k
theorem cN_le (fI : Nat → Int32) (B : Nat → Nat) (kind : Int32) : ∀ u, cN fI B kind u ≤ u
  | 0 => Nat.le_refl 0
  | u + 1 => by
    have := cN_le fI B kind u
    unfold cN
    split <;> omega
def hdN (f : Nat → Int32) (a R : Nat) (kind many : Int32) : Nat → Int32 := upd (upd (upd (upd (upd f a 90) (a + 1) kind) (a + 2) ((nI (R + 1)) >>> ((8 : Int32) &&& 31))) (a + 3) ((nI (R + 1)) &&& 255)) (a + 4) many
/-- the four bytes of a sum, at b -/
def clN (f : Nat → Int32) (b : Nat) (s : Int32) : Nat → (Nat → Int32)
  | 0 => f
  | k + 1 => upd (clN f b s k) (b + k) ((ushr s (24 - (nI (8 * k)))) &&& 255)
/-- k places from a on, as in g -/
def cpN (f g : Nat → Int32) (a : Nat) : Nat → (Nat → Int32)
  | 0 => f
  | k + 1 => upd (cpN f g a k) (a + k) (g (a + k))
/-- k places from a on, as g from 0 on -/
def bdN (f g : Nat → Int32) (a : Nat) : Nat → (Nat → Int32)
  | 0 => f
  | k + 1 => upd (bdN f g a k) (a + k) (g k)
/-- the counts of kinds 1 .. k, each in two bytes, from a on -/
def stN (f : Nat → Int32) (a : Nat) (cn : Nat → Nat) : Nat → (Nat → Int32)
  | 0 => f
  | k + 1 => upd (upd (stN f a cn k) (a + 2 * (k + 1) - 2) ((nI (cn (k + 1))) >>> ((8 : Int32) &&& 31))) (a + 2 * (k + 1) - 1) ((nI (cn (k + 1))) &&& 255)
def zN (f : Nat → Int32) (a : Nat) : Nat → Int32
  | 0 => 1
  | k + 1 => if f (a + k) = 0 then zN f a k else 0
/-- are the counts at a those of the first k kinds? -/
def crN (fD : Nat → Int32) (a : Nat) (cn : Nat → Nat) : Nat → Nat → Int32
  | _, 0 => 1
  | k, j + 1 => if (256 * (fD (a + 2 * k - 2))) + (fD (a + 2 * k - 1)) = nI (cn k) then crN fD a cn (k + 1) j else 0
/-- the four bytes at b are those of s, from the k-th on, j of them -/
def eqN (fD : Nat → Int32) (b : Nat) (s : Int32) : Nat → Nat → Bool
  | _, 0 => true
  | k, j + 1 => if fD (b + k) = ((ushr s (24 - (nI (8 * k)))) &&& 255) then eqN fD b s (k + 1) j else false
theorem il0 {α : Type} {a b : α} : (if (0 : Int32) = 0 then a else b) = a := if_pos rfl
theorem il1 {α : Type} {a b : α} : (if (1 : Int32) = 0 then a else b) = b := if_neg (by decide)
theorem il2 {α : Type} {a b : α} : (if (2 : Int32) = 0 then a else b) = b := if_neg (by decide)
theorem il3 {α : Type} {a b : α} : (if (3 : Int32) = 0 then a else b) = b := if_neg (by decide)
theorem k_fit {a b : Nat} (h : (if a ≤ b then (0 : Int32) else 1) = 0) : a ≤ b := by
  by_cases g : a ≤ b
  · exact g
  · rw [if_neg g] at h; exact absurd h (by decide)
abbrev flN (n bR t : Nat) : Int32 := if bR + 9 + t ≤ 32 * n then 0 else 1
def thAdd (up : Int32) (T : Nat) (b : Int32) : Int32 := if mWithin b 0 255 = 0 then 1 else if up = 0 then 2 else if nI T = 20 then 3 else 0
def thEnd (n bR T : Nat) (up kind : Int32) : Int32 := if mWithin kind 1 4 = 0 then 1 else if up = 0 then 2 else if (if bR + 9 + T ≤ 32 * n then (0 : Int32) else 1) = 0 then 0 else 3
def thWhole (n bR : Nat) (up : Int32) : Int32 := if up = 0 then 1 else if (if bR + 9 + 8 ≤ 32 * n then (0 : Int32) else 1) = 0 then 0 else 2
def thUp (up : Int32) : Int32 := if up = 0 then 1 else 0
def thCut (bR bS : Nat) (up keep mask : Int32) : Int32 := if mWithin mask 0 255 = 0 then 1 else if up = 0 then (if mWithin keep 0 0 = 0 then 1 else 2) else (if mWithin keep 0 (nI (bR - bS)) = 0 then 1 else 0)
def isB (n : Nat) (sector i : Int32) : Int32 := if mWithin sector 0 ((nI (32 * n / 32)) - 1) = 0 then 0 else if mWithin i 0 31 = 0 then 0 else 1
def thPoke (n : Nat) (sector i mask : Int32) : Int32 := if mWithin mask 1 255 = 0 then 1 else if isB n sector i = 0 then 2 else 0
def thByte (n : Nat) (sector i : Int32) : Int32 := if isB n sector i = 0 then 1 else 0
def thFind (kind i : Int32) : Int32 := if mWithin kind 1 5 = 0 then 1 else if i < 0 then 1 else 0
def thTotal (kind : Int32) : Int32 := if mWithin kind 1 5 = 0 then 1 else 0
/-- the image with a row's head and its bytes; with its sum behind them -/
def enF (fI fT : Nat → Int32) (bR R T : Nat) (kind : Int32) : Nat → Int32 := bdN (hdN fI bR R kind (nI T)) fT (bR + 5) T
def enI (F : Nat → Int32) (bR b : Nat) : Nat → Int32 := clN F b (sN F (bR + 1) (b - (bR + 1))) 4
def stM (f : Nat → Int32) (a R : Nat) (Bg : Nat → Nat) : Nat → (Nat → Int32)
  | 0 => f
  | k + 1 => upd (upd (stM f a R Bg k) (a + 2 * (k + 1) - 2) ((nI (cN (stM f a R Bg k) Bg (nI (k + 1)) R)) >>> ((8 : Int32) &&& 31))) (a + 2 * (k + 1) - 1) ((nI (cN (stM f a R Bg k) Bg (nI (k + 1)) R)) &&& 255)
def whF (fI : Nat → Int32) (bR R : Nat) (Bg : Nat → Nat) : Nat → Int32 := stM (hdN fI bR R 5 8) (bR + 5) R Bg 4
def lkN (n : Nat) (fD fI : Nat → Int32) (Db Bg : Nat → Nat) (R a : Nat) : Int32 :=
  if zN fD a (32 * n - a) = 0 then
    if fD a = 90 then
      if a + 5 ≤ 32 * n then
        if mWithin (fD (a + 1)) 1 5 = 0 then 2 else
          if (256 * (fD (a + 2))) + (fD (a + 3)) = nI (R + 1) then
            if 20 < Db (a + 4) then 4 else
              if (a + 9) + Db (a + 4) ≤ 32 * n then
                if eqN fD ((a + 5) + Db (a + 4)) (sN fD (a + 1) ((a + 5) + Db (a + 4) - (a + 1))) 0 4 = true then
                  if fD (a + 1) = 5 then
                    if (if Db (a + 4) = 8 then crN fD (a + 5) (fun k => cN fI Bg (nI k) R) 1 4 else 0) = 0 then 6 else 0
                  else 0
                else 5
              else 4
          else 3
      else 4
    else 1
  else 7
def updN (f : Nat → Nat) (k v : Nat) : Nat → Nat := fun j => if j = k then v else f j
abbrev RN : Type := (Nat → Int32) × (Nat → Int32) × (Nat → Nat) × Nat × Nat
def tkN (fD : Nat → Int32) (Db : Nat → Nat) (x : RN) : RN := (cpN x.1 fD x.2.2.2.2 (9 + Db (x.2.2.2.2 + 4)), upd x.2.1 (x.2.2.2.1 + 1) (nI ((x.2.2.2.2 + 9) + Db (x.2.2.2.2 + 4))), updN x.2.2.1 (x.2.2.2.1 + 1) ((x.2.2.2.2 + 9) + Db (x.2.2.2.2 + 4)), x.2.2.2.1 + 1, (x.2.2.2.2 + 9) + Db (x.2.2.2.2 + 4))
def rdN (n : Nat) (fD : Nat → Int32) (Db : Nat → Nat) : Nat → RN → RN × Int32
  | 0, x => (x, 0)
  | f + 1, x => if lkN n fD x.1 Db x.2.2.1 x.2.2.2.1 x.2.2.2.2 = 0 then rdN n fD Db f (tkN fD Db x) else (x, lkN n fD x.1 Db x.2.2.1 x.2.2.2.1 x.2.2.2.2)
def fdN (fI : Nat → Int32) (Bg : Nat → Nat) (kind i : Int32) : Nat → Nat → Nat → Int32
  | _, _, 0 => -1
  | k, q, j + 1 => if fI (Bg k + 1) = kind then (if nI q = i then nI (k + 1) else fdN fI Bg kind i (k + 1) (q + 1) j) else fdN fI Bg kind i (k + 1) q j
def bsN (f : Nat → Int32) (a : Nat) (z : Int32) : Nat → Int32
  | 0 => z
  | j + 1 => bsN f a z j + f (a + j)
def toN (fI : Nat → Int32) (Bg ln : Nat → Nat) (kind from_ to_ : Int32) : Nat → Int32
  | 0 => 0
  | k + 1 => if fI (Bg k + 1) = kind then (if mWithin (nI (k + 1)) from_ to_ = 0 then toN fI Bg ln kind from_ to_ k else bsN fI (Bg k + 5) (toN fI Bg ln kind from_ to_ k) (ln k)) else toN fI Bg ln kind from_ to_ k
theorem zN_pos {f : Nat → Int32} {a k : Nat} (h : zN f a k = 0) : 0 < k := by
  cases k with
  | zero => exact absurd h (by simp [zN])
  | succ k => exact Nat.succ_pos k
theorem lk_fit {n : Nat} {fD fI : Nat → Int32} {Db Bg : Nat → Nat} {R a : Nat} (h : lkN n fD fI Db Bg R a = 0) : (a + 9) + Db (a + 4) ≤ 32 * n := by
  unfold lkN at h
  by_cases c1 : zN fD a (32 * n - a) = 0
  · rw [if_pos c1] at h
    by_cases c2 : fD a = 90
    · rw [if_pos c2] at h
      by_cases c3 : a + 5 ≤ 32 * n
      · rw [if_pos c3] at h
        by_cases c4 : mWithin (fD (a + 1)) 1 5 = 0
        · rw [if_pos c4] at h; exact absurd h (by decide)
        · rw [if_neg c4] at h
          by_cases c5 : (256 * (fD (a + 2))) + (fD (a + 3)) = nI (R + 1)
          · rw [if_pos c5] at h
            by_cases c6 : 20 < Db (a + 4)
            · rw [if_pos c6] at h; exact absurd h (by decide)
            · rw [if_neg c6] at h
              by_cases c7 : (a + 9) + Db (a + 4) ≤ 32 * n
              · exact c7
              · rw [if_neg c7] at h; exact absurd h (by decide)
          · rw [if_neg c5] at h; exact absurd h (by decide)
      · rw [if_neg c3] at h; exact absurd h (by decide)
    · rw [if_neg c2] at h; exact absurd h (by decide)
  · rw [if_neg c1] at h; exact absurd h (by decide)
theorem within_le {w k : Nat} (hw : w < 2 ^ 31) (hk : k < 2 ^ 31) (h : ¬ mWithin (nI w) 0 (nI k) = 0) : w ≤ k := by
  unfold mWithin at h
  by_cases c1 : nI w < 0
  · rw [if_pos c1] at h; exact absurd rfl h
  · rw [if_neg c1] at h
    by_cases c2 : nI k < nI w
    · rw [if_pos c2] at h; exact absurd rfl h
    · exact Nat.le_of_not_lt fun q => c2 ((nI_ltI hk hw).mpr q)
def thRow (w lk : Nat) : Int32 := if mWithin (nI w) 0 2 = 0 then (if 10 ≤ w then (if w < 10 then 0 else if w - 10 < lk then 0 else 1) else 2) else (if w < 10 then 0 else if w - 10 < lk then 0 else 1)
def rowN (fI : Nat → Int32) (S nb bk w lk : Nat) : Int32 := if w = 0 then fI (bk + 1) else if w = 1 then nI lk else if w = 2 then (if S ≤ nb - 1 then 0 else 1) else fI (bk + 5 + w - 10)
def ctN (fI : Nat → Int32) (Bg : Nat → Nat) (n R S T bR bS : Nat) (up what : Int32) : Int32 := if what = 0 then nI (32 * n / 32) else if what = 1 then nI R else if what = 2 then nI S else if what = 3 then nI (bR - bS) else if what = 4 then nI T else if what = 5 then (if up = 0 then 0 else 1) else if what = 6 then nI bR else if what = 7 then nI (cN fI Bg 5 R) else (-1)
theorem uN_s {f : Nat → Nat} {k v : Nat} : updN f k v k = v := if_pos rfl
theorem uN_n {f : Nat → Nat} {k v j : Nat} (h : ¬ j = k) : updN f k v j = f j := if_neg h
