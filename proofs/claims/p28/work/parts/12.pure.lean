/-! what the reference's methods compute -/
def inF (v : Int32) (n : Nat) : Int32 := if v < 0 then 0 else if v < nI n then 1 else 0
def isInF (v lo hi : Int32) : Int32 := if v < lo then 0 else if hi < v then 0 else 1
theorem isIn_reg {v : Int32} {n : Nat} (h : n < 2147483648) : isInF v 0 (nI n - 1) = inF v n := by
  unfold isInF inF
  by_cases h0 : v < 0
  · rw [if_pos h0, if_pos h0]
  · rw [if_neg h0, if_neg h0]
    obtain ⟨j, hj, rfl⟩ := nI_of h0
    cases n with
    | zero =>
      have h1 : (nI 0 - 1 : Int32) < nI j := by
        rw [Int32.lt_iff_toInt_lt, show ((nI 0 - 1 : Int32)).toInt = -1 from by decide, nI_toInt hj]; omega
      rw [if_pos h1, if_neg (fun q => absurd ((nI_ltI hj (by decide)).mp q) (by omega))]
    | succ m =>
      rw [nI_pred]
      by_cases h2 : m < j
      · rw [if_pos ((nI_ltI (by omega) hj).mpr h2), if_neg (fun q => absurd ((nI_ltI hj h).mp q) (by omega))]
      · rw [if_neg (fun q => h2 ((nI_ltI (by omega) hj).mp q)), if_pos ((nI_ltI hj h).mpr (by omega))]
theorem inF_some {v : Int32} {n : Nat} (h : ¬ inF v n = 0) (hn : n < 2147483648) : ∃ j, j < n ∧ v = nI j := by
  unfold inF at h
  by_cases h0 : v < 0
  · rw [if_pos h0] at h; exact absurd rfl h
  · rw [if_neg h0] at h
    obtain ⟨j, hj, rfl⟩ := nI_of h0
    by_cases h2 : nI j < nI n
    · exact ⟨j, (nI_ltI hj hn).mp h2, rfl⟩
    · rw [if_neg h2] at h; exact absurd rfl h
theorem inF_nat {j n : Nat} (hj : j < n) (hn : n < 2147483648) : inF (nI j) n = 1 := by
  unfold inF
  rw [if_neg (nI_pos (show j < 2 ^ 31 by omega)), if_pos ((nI_ltI (by omega) hn).mpr hj)]
theorem inF_01 (v : Int32) (n : Nat) : inF v n = 0 ∨ inF v n = 1 := if01 (Or.inl rfl) (if01 (Or.inr rfl) (Or.inl rfl))
def secF (r s : Int32) (n : Nat) : Int32 := if inF r n = 0 then 0 else if isInF s 0 11 = 0 then 0 else 1
theorem isIn_n {v : Int32} (n : Nat) {h : Int32} (hh : h = nI n - 1) (hn : n < 2147483648) : isInF v 0 h = inF v n := by rw [hh]; exact isIn_reg hn
theorem secF_some {r s : Int32} {n : Nat} (h : ¬ secF r s n = 0) (hn : n < 2147483648) : ∃ j k, j < n ∧ k < 12 ∧ r = nI j ∧ s = nI k := by
  unfold secF at h
  by_cases h1 : inF r n = 0
  · rw [if_pos h1] at h; exact absurd rfl h
  · rw [if_neg h1] at h
    by_cases h2 : isInF s 0 11 = 0
    · rw [if_pos h2] at h; exact absurd rfl h
    · rw [isIn_n 12 (by decide) (by decide)] at h2
      obtain ⟨j, hj, e1⟩ := inF_some h1 hn
      obtain ⟨k, hk, e2⟩ := inF_some h2 (by decide)
      exact ⟨j, k, hj, hk, e1, e2⟩
theorem secF_nat {j k n : Nat} (hj : j < n) (hk : k < 12) (hn : n < 2147483648) : secF (nI j) (nI k) n = 1 := by
  unfold secF
  rw [inF_nat hj hn, if_neg (by decide), isIn_n 12 (by decide) (by decide), inF_nat hk (by decide), if_neg (by decide)]
def wthF (sn wi fr te : Int32) : Int32 := if isInF sn 0 150 = 0 then 0 else if isInF wi 0 120 = 0 then 0 else if isInF fr 0 3 = 0 then 0 else if isInF te (-30) 15 = 0 then 0 else 1
def dgM (r : Nat → Int32) : Nat → Int32 × Int32
  | 0 => (0, 0)
  | p + 1 => (mx (dgM r p).1 (prR r p), if prR r p < (dgM r p).1 then mx (dgM r p).2 (prR r p) else (dgM r p).1)
def dngM (r : Nat → Int32) : Int32 := (dgM r 4).1 + (dgM r 4).2 / 4
def rwM (f : Nat → Int32) (pl : Nat) : Nat → Int32 := fun q => f (pl + q)
def mcM (f : Nat → Int32) (fr : Nat) (lv : Int32) : Nat → Int32
  | 0 => 0
  | s + 1 => mcM f fr lv s + (if lvD (dngM (rwM f (fr + 5 * s))) < lv then 0 else 1)
theorem lvD_ge (d : Int32) : ¬ lvD d < 1 := by
  unfold lvD
  repeat' split
  all_goals decide
theorem mcM_1 (f : Nat → Int32) (fr : Nat) : ∀ s : Nat, mcM f fr 1 s = nI s
  | 0 => rfl
  | s + 1 => by
    show mcM f fr 1 s + (if lvD (dngM (rwM f (fr + 5 * s))) < 1 then 0 else 1) = _
    rw [mcM_1 f fr s, if_neg (lvD_ge _)]; exact nI_1 s
def lvM (f : Nat → Int32) (fr : Nat) : Int32 := if mcM f fr 5 12 < 2 then (if mcM f fr 4 12 < 2 then (if mcM f fr 3 12 < 2 then (if mcM f fr 2 12 < 2 then 1 else 2) else 3) else 4) else 5
def atM (rg s : Nat) : Nat := (12 * rg + s) * 5
def crM (f : Nat → Int32) (rg : Nat) (lv : Int32) : Nat → Int32
  | 0 => 0
  | s + 1 => if lvD (dngM (rwM f ((12 * rg + s) * 5))) < lv then crM f rg lv s else crM f rg lv s ||| (1 <<< (nI s &&& 31))
def levM (f : Nat → Int32) (rg : Nat) : Int32 := lvM f ((12 * rg + 0) * 5)
def corM (f : Nat → Int32) (rg : Nat) : Int32 := crM f rg (levM f rg) 12
def smM (f : Nat → Int32) (rg : Nat) (co : Int32) (p : Nat) : Nat → Int32
  | 0 => 0
  | s + 1 => smM f rg co p s + (if bitF co (nI s) = 1 then prR (rwM f ((12 * rg + s) * 5)) p else 0)
def fpM (f : Nat → Int32) (rg : Nat) (co : Int32) : Nat → Int32 × Int32
  | 0 => (0, -1)
  | p + 1 => if (fpM f rg co p).2 < smM f rg co p 12 then (nI p, smM f rg co p 12) else fpM f rg co p
def manM (f : Nat → Int32) (rg : Nat) : Int32 := (fpM f rg (corM f rg) 4).1
def acM (v : Nat → Int32) (dy rg : Nat) : Nat → Int32
  | 0 => 0
  | k + 1 => if v (4 * k) = nI dy then (if v (4 * k + 1) = nI rg then acM v dy rg k + v (4 * k + 3) * v (4 * k + 3) else acM v dy rg k) else acM v dy rg k
def howF (ln : Nat) (ac : Int32) : Int32 := if ac < nI (ltA ln) then -1 else if nI (gtA ln) < ac then 1 else 0
theorem howF_1 (ac : Int32) : howF 1 ac = if ac < 0 then -1 else if 1 < ac then 1 else 0 := rfl
theorem howF_2 (ac : Int32) : howF 2 ac = if ac < 0 then -1 else if 9 < ac then 1 else 0 := rfl
theorem howF_3 (ac : Int32) : howF 3 ac = if ac < 4 then -1 else if 40 < ac then 1 else 0 := rfl
theorem howF_4 (ac : Int32) : howF 4 ac = if ac < 25 then -1 else if 120 < ac then 1 else 0 := rfl
theorem howF_5 (ac : Int32) : howF 5 ac = if ac < 80 then -1 else if 2147483647 < ac then 1 else 0 := rfl
theorem i32_div1 (x : Int32) : x / 1 = x := Int32.div_one
def rkM (f : Nat → Int32) (rg : Nat) (sc st : Int32) : Int32 := rkF (levM f rg) (corM f rg) sc st
/-! the reference's public methods -/
def wkM (f : Nat → Int32) (rg : Nat) (a b : Nat → Int32) : Nat → Nat
  | 0 => 0
  | k + 1 => if k = 0 then k else if rkM f rg (a (wkM f rg a b k)) (b (wkM f rg a b k)) < rkM f rg (a k) (b k) then k else wkM f rg a b k
theorem wkM_lt (f : Nat → Int32) (rg : Nat) (a b : Nat → Int32) : ∀ k : Nat, 0 < k → wkM f rg a b k < k
  | 0, h => absurd h (by omega)
  | k + 1, _ => by
    show (if k = 0 then k else if rkM f rg (a (wkM f rg a b k)) (b (wkM f rg a b k)) < rkM f rg (a k) (b k) then k else wkM f rg a b k) < k + 1
    by_cases h0 : k = 0
    · rw [if_pos h0]; omega
    · rw [if_neg h0]
      have := wkM_lt f rg a b k (by omega)
      split <;> omega
def wxM (f : Nat → Int32) (rg : Nat) (a b : Nat → Int32) : Nat → Int32
  | 0 => -1
  | k + 1 => nI (wkM f rg a b (k + 1))
theorem wxM_pos {f : Nat → Int32} {rg : Nat} {a b : Nat → Int32} {k : Nat} (h : 0 < k) : wxM f rg a b k = nI (wkM f rg a b k) := by
  cases k with
  | zero => exact absurd h (by omega)
  | succ k => rfl
theorem nI_m1 {k : Nat} (h : k < 2147483648) : ¬ nI k = -1 := fun q => by
  have h1 : (nI k).toInt = (-1 : Int32).toInt := by rw [q]
  rw [nI_toInt h, show ((-1 : Int32)).toInt = -1 from by decide] at h1; omega
def mrM (f : Nat → Int32) (a b : Nat → Int32) (ml rg : Nat) : Int32 := rkM f rg (a (wkM f rg a b ml)) (b (wkM f rg a b ml))
def bkM (f : Nat → Int32) (a b : Nat → Int32) (ml : Nat) : Nat → Nat
  | 0 => 0
  | r + 1 => if r = 0 then r else if mrM f a b ml r < mrM f a b ml (bkM f a b ml r) then r else bkM f a b ml r
theorem bkM_lt (f : Nat → Int32) (a b : Nat → Int32) (ml : Nat) : ∀ k : Nat, 0 < k → bkM f a b ml k < k
  | 0, h => absurd h (by omega)
  | k + 1, _ => by
    show (if k = 0 then k else if mrM f a b ml k < mrM f a b ml (bkM f a b ml k) then k else bkM f a b ml k) < k + 1
    by_cases h0 : k = 0
    · rw [if_pos h0]; omega
    · rw [if_neg h0]
      have := bkM_lt f a b ml k (by omega)
      split <;> omega
def bxM (f : Nat → Int32) (a b : Nat → Int32) (ml : Nat) : Nat → Int32
  | 0 => -1
  | k + 1 => nI (bkM f a b ml (k + 1))
theorem bxM_pos {f : Nat → Int32} {a b : Nat → Int32} {ml k : Nat} (h : 0 < k) : bxM f a b ml k = nI (bkM f a b ml k) := by
  cases k with
  | zero => exact absurd h (by omega)
  | succ k => rfl
def tAdd (n : Nat) : Nat := if n = 6 then 1 else 0
def tSec (r s w : Int32) (n : Nat) : Nat := if secF r s n = 0 then 1 else if isInF w 0 4 = 0 then 1 else 0
def tSet (r s w v : Int32) (n : Nat) : Nat := if secF r s n = 0 then 1 else if isInF w 0 4 = 0 then 1 else if isInF v 0 (gr w) = 0 then 2 else 0
def tPrb (r s w : Int32) (n : Nat) : Nat := if secF r s n = 0 then 1 else if isInF w 0 3 = 0 then 1 else 0
def tDan (r s : Int32) (n : Nat) : Nat := if secF r s n = 0 then 1 else 0
def tWea (r sn wi fr te : Int32) (n : Nat) : Nat := if inF r n = 0 then 1 else if wthF sn wi fr te = 0 then 2 else 0
def tLeg (s st : Int32) (ml : Nat) : Nat := if isInF s 0 11 = 0 then 1 else if isInF st 20 50 = 0 then 1 else if ml = 20 then 2 else 0
def tRsk (r lg : Int32) (n ml : Nat) : Nat := if inF r n = 0 then 1 else if isInF lg 0 (nI ml - 1) = 0 then 1 else 0
def tAct (d r : Int32) (md n : Nat) : Nat := if isInF d 0 (nI md) = 0 then 1 else if inF r n = 0 then 1 else 0
def tReg (r : Int32) (n : Nat) : Nat := if inF r n = 0 then 1 else 0
/-! a day of the reference, its bulletins, its sums -/
def fmF (x : Int32) : Int32 := if (x ^^^ 4) < 0 then (if rm4 x = 0 then rm4 x else rm4 x + 4) else rm4 x
def mP (f : Nat → Int32) (w : Nat) (v : Int32) : Nat → Int32 := upd f w (mn (gr (nI w)) v)
def tM (te : Int32) (s : Nat) : Int32 := te + 6 - nI (6 * (s / 4))
def go1 (f : Nat → Int32) (t fa sn : Int32) : Nat → Int32 := if 1 < t then mP (mP f 0 (f 0 * 6 / 10 + fa)) 3 (mP f 0 (f 0 * 6 / 10 + fa) 3 + sn / 2) else mP f 0 (f 0 * 6 / 10 + fa)
def moM (f : Nat → Int32) (wi : Int32) : Int32 := mn (f 0) 40 * (wi - 20) / 40
def ofM (s : Nat) (fr : Int32) : Int32 := fmF (nI (s % 4) - fr)
def drM (f : Nat → Int32) (s : Nat) (wi fr : Int32) : Int32 := if ofM s fr = 0 then 0 else if ofM s fr = 2 then moM f wi else moM f wi / 2
def go2 (f : Nat → Int32) (s : Nat) (wi fr : Int32) : Nat → Int32 := if wi < 25 then upd f 1 (f 1 * 8 / 10) else mP f 1 (f 1 + drM f s wi fr)
def go3 (f : Nat → Int32) (t fa wi : Int32) : Nat → Int32 := if fa < 10 then (if wi < 40 then (if 0 < t then upd f 4 0 else if fa = 0 then (if wi < 15 then (if t < -8 then mP f 4 (f 4 + 1) else f) else f) else f) else upd f 4 0) else upd (mP f 2 (f 2 + 15 * f 4)) 4 0
def go4 (f : Nat → Int32) (s : Nat) (t : Int32) : Nat → Int32 := if 0 < t then (if s % 4 = 2 then mP (upd f 2 (f 2 * 7 / 10)) 3 (upd f 2 (f 2 * 7 / 10) 3 + 8 * t) else mP (upd f 2 (f 2 * 7 / 10)) 3 (upd f 2 (f 2 * 7 / 10) 3 + 4 * t)) else upd (upd f 2 (f 2 * 95 / 100)) 3 (upd f 2 (f 2 * 95 / 100) 3 / 2)
def goF (f : Nat → Int32) (s : Nat) (sn wi fr te : Int32) : Nat → Int32 := go4 (go3 (go2 (go1 f (tM te s) (fallS sn (tM te s)) sn) s wi fr) (tM te s) (fallS sn (tM te s)) wi) s (tM te s)
def thM (NU : Nat → Int32) (rg : Nat) (sn wi fr te : Int32) : Nat → (Nat → Int32) × (Nat → Int32)
  | 0 => (fun _ => 0, fun _ => 0)
  | s + 1 => (va_cpy (goF (va_cpy NU (thM NU rg sn wi fr te s).2 ((12 * rg + s) * 5) 0 5) s sn wi fr te) (thM NU rg sn wi fr te s).1 0 (5 * s) 5, goF (va_cpy NU (thM NU rg sn wi fr te s).2 ((12 * rg + s) * 5) 0 5) s sn wi fr te)
def tnM (NU : Nat → Int32) (rg : Nat) (sn wi fr te : Int32) : Nat → Int32 := (thM NU rg sn wi fr te 12).1
def caK (f : Nat → Int32) (r : Nat) : Nat → Nat → Int32
  | 0 => f
  | k + 1 => upd (caK f r k) (4 * r + k) (if k = 3 then -5 else 0)
def caR (f : Nat → Int32) : Nat → Nat → Int32
  | 0 => f
  | r + 1 => caK (caR f r) r 4
def caT (f : Nat → Int32) : Nat → Nat → Int32
  | 0 => f
  | r + 1 => upd (caT f r) r 0
def enM (NU WE : Nat → Int32) : Nat → Nat → Int32
  | 0 => NU
  | r + 1 => va_cpy (tnM (enM NU WE r) r (WE (4 * r)) (WE (4 * r + 1)) (WE (4 * r + 2)) (WE (4 * r + 3))) (enM NU WE r) 0 ((12 * r + 0) * 5) 60
def pbM (NU : Nat → Int32) (md : Nat) (BU : Nat → Int32) : Nat → Nat → Int32
  | 0 => BU
  | r + 1 => upd (upd (upd (pbM NU md BU r) ((6 * md + r) * 3) (levM NU r)) ((6 * md + r) * 3 + 1) (corM NU r)) ((6 * md + r) * 3 + 2) (manM NU r)
def pgM (NU : Nat → Int32) : Nat → Int32
  | 0 => 0
  | r + 1 => mx (pgM NU r) (levM NU r)
def nbM (zs : Nat → Nat) : Nat → Int32
  | 0 => 0
  | k + 1 => nbM zs k + (if 0 < zs k then 1 else 0)
def mdF (dy rg sc : Nat) (sz : Int32) : Nat → Int32 := upd (upd (upd (upd (fun _ => 0) 0 (nI dy)) 1 (nI rg)) 2 (nI sc)) 3 sz
def lvB (BU : Nat → Int32) (d r : Nat) : Nat := (BU ((6 * d + r) * 3)).toNatClampNeg
def boR (BU AV : Nat → Int32) (ms : Nat) (hw : Int32) (d : Nat) (a : Int32) : Nat → Int32
  | 0 => a
  | r + 1 => boR BU AV ms hw d a r + (if howF (lvB BU d r) (acM AV d r ms) = hw then 1 else 0)
def boD (BU AV : Nat → Int32) (ms : Nat) (zs : Nat → Nat) (hw : Int32) : Nat → Int32
  | 0 => 0
  | d + 1 => boR BU AV ms hw d (boD BU AV ms zs hw d) (zs d)
def dkM (NU : Nat → Int32) (rg : Nat) (d : Int64) : Nat → Int64
  | 0 => d
  | k + 1 => dkM NU rg d k * 31 + Int32.toInt64 (NU ((12 * rg + 0) * 5 + k))
def dqM (NU AV : Nat → Int32) (md ms : Nat) (d : Int64) : Nat → Int64
  | 0 => d
  | r + 1 => (((dkM NU r (dqM NU AV md ms d r) 60 * 31 + Int32.toInt64 (levM NU r)) * 31 + Int32.toInt64 (corM NU r)) * 31 + Int32.toInt64 (manM NU r)) * 31 + Int32.toInt64 (acM AV md r ms)
def dbK (BU : Nat → Int32) (a : Nat) (d : Int64) : Nat → Int64
  | 0 => d
  | k + 1 => dbK BU a d k * 31 + Int32.toInt64 (BU ((6 * a + 0) * 3 + k))
def dbM (BU : Nat → Int32) (zs : Nat → Nat) (d : Int64) : Nat → Int64
  | 0 => d
  | a + 1 => if zs a = 0 then dbM BU zs d a else dbK BU a (dbM BU zs d a * 31 + Int32.toInt64 (nI a)) (3 * zs a)
def dlM (LS LT : Nat → Int32) (d : Int64) : Nat → Int64
  | 0 => d
  | k + 1 => (dlM LS LT d k * 31 + Int32.toInt64 (LS k)) * 31 + Int32.toInt64 (LT k)
def diM (md mr ms ml : Nat) (NU : Nat → Int32) (zs : Nat → Nat) (BU AV LS LT : Nat → Int32) : Int64 := dlM LS LT ((dbM BU zs (dqM NU AV md ms ((10261 + Int32.toInt64 (nI md)) * 31 + Int32.toInt64 (nI mr)) mr) 61 * 31 + Int32.toInt64 (nI ms)) * 31 + Int32.toInt64 (nI ml)) ml
def tEnd (md : Nat) : Nat := if md = 60 then 1 else 0
def tPub (zs : Nat → Nat) (md mr : Nat) : Nat := if 0 < zs md then 1 else if mr = 0 then 1 else 0
def tBul (zs : Nat → Nat) (d r w : Int32) : Nat := if isInF d 0 60 = 0 then 1 else if isInF r 0 (nI (zs (Int32.toNatClampNeg d)) - 1) = 0 then 1 else if isInF w 0 2 = 0 then 1 else 0
def tSee (r s z : Int32) (mr ms : Nat) : Nat := if secF r s mr = 0 then 1 else if isInF z 1 5 = 0 then 2 else if ms = 200 then 3 else 0
def tBor (hw : Int32) : Nat := if isInF hw (-1) 1 = 0 then 1 else 0
