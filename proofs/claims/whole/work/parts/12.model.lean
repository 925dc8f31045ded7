/-! what the reference's methods compute -/
def inF (v : Int32) (n : Nat) : Int32 := if v < 0 then 0 else if v < nI n then 1 else 0
def isInF (v lo hi : Int32) : Int32 := if v < lo then 0 else if hi < v then 0 else 1
theorem isIn_reg {v : Int32} {n : Nat} (h : n < 2147483648) : isInF v 0 (nI n - 1) = inF v n := by
  unfold isInF inF
  by_cases h0 : v < 0
  · rw [if_pos h0, if_pos h0]
  · rw [if_neg h0, if_neg h0]
    obtain ⟨j, hj, rfl⟩ := nI_of h0
    cases n with
    | zero =>
      have h1 : (nI 0 - 1 : Int32) < nI j := by
        rw [Int32.lt_iff_toInt_lt, show ((nI 0 - 1 : Int32)).toInt = -1 from by decide, nI_toInt hj]; omega
      rw [if_pos h1, if_neg (fun q => absurd ((nI_ltI hj (by decide)).mp q) (by omega))]
    | succ m =>
      rw [nI_pred]
      by_cases h2 : m < j
      · rw [if_pos ((nI_ltI (by omega) hj).mpr h2), if_neg (fun q => absurd ((nI_ltI hj h).mp q) (by omega))]
      · rw [if_neg (fun q => h2 ((nI_ltI (by omega) hj).mp q)), if_pos ((nI_ltI hj h).mpr (by omega))]
theorem inF_some {v : Int32} {n : Nat} (h : ¬ inF v n = 0) (hn : n < 2147483648) : ∃ j, j < n ∧ v = nI j := by
  unfold inF at h
  by_cases h0 : v < 0
  · rw [if_pos h0] at h; exact absurd rfl h
  · rw [if_neg h0] at h
    obtain ⟨j, hj, rfl⟩ := nI_of h0
    by_cases h2 : nI j < nI n
    · exact ⟨j, (nI_ltI hj hn).mp h2, rfl⟩
    · rw [if_neg h2] at h; exact absurd rfl h
theorem inF_nat {j n : Nat} (hj : j < n) (hn : n < 2147483648) : inF (nI j) n = 1 := by
  unfold inF
  rw [if_neg (nI_pos (show j < 2 ^ 31 by omega)), if_pos ((nI_ltI (by omega) hn).mpr hj)]
theorem inF_01 (v : Int32) (n : Nat) : inF v n = 0 ∨ inF v n = 1 := if01 (Or.inl rfl) (if01 (Or.inr rfl) (Or.inl rfl))
def secF (r s : Int32) (n : Nat) : Int32 := if inF r n = 0 then 0 else if isInF s 0 11 = 0 then 0 else 1
theorem isIn_n {v : Int32} (n : Nat) {h : Int32} (hh : h = nI n - 1) (hn : n < 2147483648) : isInF v 0 h = inF v n := by rw [hh]; exact isIn_reg hn
theorem secF_some {r s : Int32} {n : Nat} (h : ¬ secF r s n = 0) (hn : n < 2147483648) : ∃ j k, j < n ∧ k < 12 ∧ r = nI j ∧ s = nI k := by
  unfold secF at h
  by_cases h1 : inF r n = 0
  · rw [if_pos h1] at h; exact absurd rfl h
  · rw [if_neg h1] at h
    by_cases h2 : isInF s 0 11 = 0
    · rw [if_pos h2] at h; exact absurd rfl h
    · rw [isIn_n 12 (by decide) (by decide)] at h2
      obtain ⟨j, hj, e1⟩ := inF_some h1 hn
      obtain ⟨k, hk, e2⟩ := inF_some h2 (by decide)
      exact ⟨j, k, hj, hk, e1, e2⟩
theorem secF_nat {j k n : Nat} (hj : j < n) (hk : k < 12) (hn : n < 2147483648) : secF (nI j) (nI k) n = 1 := by
  unfold secF
  rw [inF_nat hj hn, if_neg (by decide), isIn_n 12 (by decide) (by decide), inF_nat hk (by decide), if_neg (by decide)]
def wthF (sn wi fr te : Int32) : Int32 := if isInF sn 0 150 = 0 then 0 else if isInF wi 0 120 = 0 then 0 else if isInF fr 0 3 = 0 then 0 else if isInF te (-30) 15 = 0 then 0 else 1
def dgM (r : Nat → Int32) : Nat → Int32 × Int32
  | 0 => (0, 0)
  | p + 1 => (mx (dgM r p).1 (prR r p), if prR r p < (dgM r p).1 then mx (dgM r p).2 (prR r p) else (dgM r p).1)
def dngM (r : Nat → Int32) : Int32 := (dgM r 4).1 + (dgM r 4).2 / 4
def rwM (f : Nat → Int32) (pl : Nat) : Nat → Int32 := fun q => f (pl + q)
def mcM (f : Nat → Int32) (fr : Nat) (lv : Int32) : Nat → Int32
  | 0 => 0
  | s + 1 => mcM f fr lv s + (if lvD (dngM (rwM f (fr + 5 * s))) < lv then 0 else 1)
theorem lvD_ge (d : Int32) : ¬ lvD d < 1 := by
  unfold lvD
  repeat' split
  all_goals decide
theorem mcM_1 (f : Nat → Int32) (fr : Nat) : ∀ s : Nat, mcM f fr 1 s = nI s
  | 0 => rfl
  | s + 1 => by
    show mcM f fr 1 s + (if lvD (dngM (rwM f (fr + 5 * s))) < 1 then 0 else 1) = _
    rw [mcM_1 f fr s, if_neg (lvD_ge _)]; exact nI_1 s
def lvM (f : Nat → Int32) (fr : Nat) : Int32 := if mcM f fr 5 12 < 2 then (if mcM f fr 4 12 < 2 then (if mcM f fr 3 12 < 2 then (if mcM f fr 2 12 < 2 then 1 else 2) else 3) else 4) else 5
def atM (rg s : Nat) : Nat := (12 * rg + s) * 5
def crM (f : Nat → Int32) (rg : Nat) (lv : Int32) : Nat → Int32
  | 0 => 0
  | s + 1 => if lvD (dngM (rwM f ((12 * rg + s) * 5))) < lv then crM f rg lv s else crM f rg lv s ||| (1 <<< (nI s &&& 31))
def levM (f : Nat → Int32) (rg : Nat) : Int32 := lvM f ((12 * rg + 0) * 5)
def corM (f : Nat → Int32) (rg : Nat) : Int32 := crM f rg (levM f rg) 12
def smM (f : Nat → Int32) (rg : Nat) (co : Int32) (p : Nat) : Nat → Int32
  | 0 => 0
  | s + 1 => smM f rg co p s + (if bitF co (nI s) = 1 then prR (rwM f ((12 * rg + s) * 5)) p else 0)
def fpM (f : Nat → Int32) (rg : Nat) (co : Int32) : Nat → Int32 × Int32
  | 0 => (0, -1)
  | p + 1 => if (fpM f rg co p).2 < smM f rg co p 12 then (nI p, smM f rg co p 12) else fpM f rg co p
def manM (f : Nat → Int32) (rg : Nat) : Int32 := (fpM f rg (corM f rg) 4).1
def acM (v : Nat → Int32) (dy rg : Nat) : Nat → Int32
  | 0 => 0
  | k + 1 => if v (4 * k) = nI dy then (if v (4 * k + 1) = nI rg then acM v dy rg k + v (4 * k + 3) * v (4 * k + 3) else acM v dy rg k) else acM v dy rg k
def howF (ln : Nat) (ac : Int32) : Int32 := if ac < nI (ltA ln) then -1 else if nI (gtA ln) < ac then 1 else 0
theorem howF_1 (ac : Int32) : howF 1 ac = if ac < 0 then -1 else if 1 < ac then 1 else 0 := rfl
theorem howF_2 (ac : Int32) : howF 2 ac = if ac < 0 then -1 else if 9 < ac then 1 else 0 := rfl
theorem howF_3 (ac : Int32) : howF 3 ac = if ac < 4 then -1 else if 40 < ac then 1 else 0 := rfl
theorem howF_4 (ac : Int32) : howF 4 ac = if ac < 25 then -1 else if 120 < ac then 1 else 0 := rfl
theorem howF_5 (ac : Int32) : howF 5 ac = if ac < 80 then -1 else if 2147483647 < ac then 1 else 0 := rfl
theorem i32_div1 (x : Int32) : x / 1 = x := Int32.div_one
def rkM (f : Nat → Int32) (rg : Nat) (sc st : Int32) : Int32 := rkF (levM f rg) (corM f rg) sc st
set_option maxHeartbeats 4000000 in
set_option maxRecDepth 100000 in
theorem kX5_thrown (l : Launch) (E : ev_T) (m0 : Nat) (m1 : Nat) (m2 : Nat) (m3 : Nat) (m4 : Nat) (m5 : Nat) (m6 : Nat) (m7 : Nat) (m8 : Nat) (th : Int32) (md : Nat) (mr : Nat) (ms : Nat) (ml : Nat) : Met l yX5_thrown wsX5_thrown ({ frames := 0, cells := 0, slots := 0, locals := 0 } : Room) (va_Pc [.ref m0] (pr_R E [(m0, .inr (5, [.int th, .int (nI md), .int (nI mr), .ref m1, .ref m2, .ref m3, .ref m4, .ref m5, .int (nI ms), .ref m6, .int (nI ml), .ref m7, .ref m8]))])) (va_Qi (fun (r : Int32) (_ : Unit) => r = th) (fun _ _ => True) (fun _ : Nat => False)) 0 0 (fun _ : Nat => False) := by
  refine Met.ofW (cc := cX5_thrown) (maxL := 1) (ret := (some .int)) (by decide) rfl ?_
  intro p e s m args below meth c s₁ B hml hv
  obtain ⟨rfl, hP, hE⟩ := hv
  have hx := B.exec
  have hb := B.bytes
  have hr := B.returns
  have hts := atoms_spec (ws := wsX5_thrown) B.pre
  have hown : s.vm.findClass RX5 = some m.cls := findClass_of_methodNamed B.named
  have hlocks := B.notSynchronized
  refine mz_start (fun H locs hH hL => ?_)
  have hS : va_S (fun _ : Nat => False) s.heap H locs := by rw [hH, hL]; exact va_S.rf
  have f_38 := hts (.fieldLink RX5 38 "AvalancheDeskModel" "thrown" "I") (by decide +kernel)
  have inX5 : ∀ w ∈ wsX50, w ∈ wsX5_thrown := by decide +kernel
  have hl := lv_entry ([.ref m0]) (n := 1) (Nat.le_of_ble_eq_true rfl)
  rw [lg_entry_eq]
  generalize (lg_sl ([.ref m0]) ++ List.replicate (1 - (lg_sl ([.ref m0])).length) Slot.unset).toArray = ls at hl ⊢
  have hl : lv_has ls 1 [(0, .ref m0)] := hl
  have hP : va_P E.1 vwCl [(m0, .inr (5, [.int th, .int (nI md), .int (nI mr), .ref m1, .ref m2, .ref m3, .ref m4, .ref m5, .int (nI ms), .ref m6, .int (nI ml), .ref m7, .ref m8]))] H := by rw [hH]; exact hP
  refine lv_aload_n hx hb dX5_thrown_0 rfl (lv_at hl 0 rfl) ?_
  refine va_get (D := E.1) (ci := 5) (v := .int th) (C := RX5) (T := TX5) (N := 13) hx hb hts inX5 hown hE.1 hP 0 rfl rfl 0 (by decide) f_38 (fun _ h9 => h9) rfl dX5_thrown_1 ?_
  exact W.iret (v := th) hx hb hr (fun t ht hW => ⟨⟨_, (), rfl, (by first | rfl), trivial⟩, hS.F ht⟩) hS.2.2 dX5_thrown_4
set_option maxHeartbeats 4000000 in
set_option maxRecDepth 100000 in
theorem kX5_no (l : Launch) (E : ev_T) (m0 : Nat) (m1 : Nat) (m2 : Nat) (m3 : Nat) (m4 : Nat) (m5 : Nat) (m6 : Nat) (m7 : Nat) (m8 : Nat) (th : Int32) (md : Nat) (mr : Nat) (ms : Nat) (ml : Nat) (xk : Int32) (sz : Nat) : Met l yX5_no wsX5_no ({ frames := 0, cells := 0, slots := 0, locals := 0 } : Room) (va_Pc [.ref m0, .int xk] (pr_W E [(m0, .inr (5, [.int th, .int (nI md), .int (nI mr), .ref m1, .ref m2, .ref m3, .ref m4, .ref m5, .int (nI ms), .ref m6, .int (nI ml), .ref m7, .ref m8]))] sz)) (va_Qi (fun (r : Int32) (_ : Unit) => r = 0) (fun _ t => va_P E.1 vwCl [(m0, .inr (5, [.int xk, .int (nI md), .int (nI mr), .ref m1, .ref m2, .ref m3, .ref m4, .ref m5, .int (nI ms), .ref m6, .int (nI ml), .ref m7, .ref m8]))] t.heap) (va_A [(m0, .inr (5, [.int th, .int (nI md), .int (nI mr), .ref m1, .ref m2, .ref m3, .ref m4, .ref m5, .int (nI ms), .ref m6, .int (nI ml), .ref m7, .ref m8]))] sz)) 0 0 (va_A [(m0, .inr (5, [.int th, .int (nI md), .int (nI mr), .ref m1, .ref m2, .ref m3, .ref m4, .ref m5, .int (nI ms), .ref m6, .int (nI ml), .ref m7, .ref m8]))] sz) := by
  refine Met.ofW (cc := cX5_no) (maxL := 2) (ret := (some .int)) (by decide) rfl ?_
  intro p e s m args below meth c s₁ B hml hv
  obtain ⟨rfl, hsz, hP, hD0, hE⟩ := hv
  have hx := B.exec
  have hb := B.bytes
  have hr := B.returns
  have hts := atoms_spec (ws := wsX5_no) B.pre
  have hown : s.vm.findClass RX5 = some m.cls := findClass_of_methodNamed B.named
  have hlocks := B.notSynchronized
  subst hsz
  have hD : va_D (va_A [(m0, .inr (5, [.int th, .int (nI md), .int (nI mr), .ref m1, .ref m2, .ref m3, .ref m4, .ref m5, .int (nI ms), .ref m6, .int (nI ml), .ref m7, .ref m8]))] s.heap.size) [(m0, .inr (5, [.int th, .int (nI md), .int (nI mr), .ref m1, .ref m2, .ref m3, .ref m4, .ref m5, .int (nI ms), .ref m6, .int (nI ml), .ref m7, .ref m8]))] := hD0.self
  have hA : ∀ q : Nat, s.heap.size ≤ q → (va_A [(m0, .inr (5, [.int th, .int (nI md), .int (nI mr), .ref m1, .ref m2, .ref m3, .ref m4, .ref m5, .int (nI ms), .ref m6, .int (nI ml), .ref m7, .ref m8]))] s.heap.size) q := fun q h => Or.inr h
  refine mz_start (fun H locs hH hL => ?_)
  have hS : va_S (va_A [(m0, .inr (5, [.int th, .int (nI md), .int (nI mr), .ref m1, .ref m2, .ref m3, .ref m4, .ref m5, .int (nI ms), .ref m6, .int (nI ml), .ref m7, .ref m8]))] s.heap.size) s.heap H locs := by rw [hH, hL]; exact va_S.rf
  have f_38 := hts (.fieldLink RX5 38 "AvalancheDeskModel" "thrown" "I") (by decide +kernel)
  have inX5 : ∀ w ∈ wsX50, w ∈ wsX5_no := by decide +kernel
  have hl := lv_entry ([.ref m0, .int xk]) (n := 2) (Nat.le_of_ble_eq_true rfl)
  rw [lg_entry_eq]
  generalize (lg_sl ([.ref m0, .int xk]) ++ List.replicate (2 - (lg_sl ([.ref m0, .int xk])).length) Slot.unset).toArray = ls at hl ⊢
  have hl : lv_has ls 2 [(0, .ref m0), (1, .int xk)] := hl
  have hP : va_P E.1 vwCl [(m0, .inr (5, [.int th, .int (nI md), .int (nI mr), .ref m1, .ref m2, .ref m3, .ref m4, .ref m5, .int (nI ms), .ref m6, .int (nI ml), .ref m7, .ref m8]))] H := by rw [hH]; exact hP
  refine lv_aload_n hx hb dX5_no_0 rfl (lv_at hl 0 rfl) ?_
  refine lv_iload_n hx hb dX5_no_1 rfl (lv_at hl 1 rfl) ?_
  refine va_put (D := E.1) (ci := 5) (v := .int xk) (ty := .int) (C := RX5) (T := TX5) (N := 13) hx hb hts inX5 tyX5 tyX5_ok nmX5 hown hE.1 hP hD hS 0 rfl rfl 0 (by decide) f_38 (fun _ h9 => h9) rfl (by decide +kernel) rfl rfl (Nat.le_of_ble_eq_true rfl) dX5_no_2 (fun H locs hP hD hS => ?_)
  have hP : va_P E.1 vwCl [(m0, .inr (5, [.int xk, .int (nI md), .int (nI mr), .ref m1, .ref m2, .ref m3, .ref m4, .ref m5, .int (nI ms), .ref m6, .int (nI ml), .ref m7, .ref m8]))] H := hP
  have hD : va_D _ [(m0, .inr (5, [.int xk, .int (nI md), .int (nI mr), .ref m1, .ref m2, .ref m3, .ref m4, .ref m5, .int (nI ms), .ref m6, .int (nI ml), .ref m7, .ref m8]))] := hD
  refine lv_iconst (v := 0) hx hb dX5_no_5 (by decide) ?_
  have hB9 : va_P E.1 vwCl [(m0, .inr (5, [.int xk, .int (nI md), .int (nI mr), .ref m1, .ref m2, .ref m3, .ref m4, .ref m5, .int (nI ms), .ref m6, .int (nI ml), .ref m7, .ref m8]))] H := by exact hP
  exact W.iret (v := 0) hx hb hr (fun t ht hW => ⟨⟨_, (), rfl, (by first | rfl), (by subst ht; exact hB9)⟩, hS.F ht⟩) hS.2.2 dX5_no_6
set_option maxHeartbeats 4000000 in
set_option maxRecDepth 100000 in
theorem kX5_isIn (l : Launch) (E : ev_T) (xv : Int32) (xl : Int32) (xh : Int32) : Met l yX5_isIn wsX5_isIn ({ frames := 0, cells := 0, slots := 0, locals := 0 } : Room) (va_Pc [.int xv, .int xl, .int xh] (fun _ => True)) (va_Qi (fun (r : Int32) (_ : Unit) => r = isInF xv xl xh) (fun _ _ => True) (fun _ : Nat => False)) 0 0 (fun _ : Nat => False) := by
  refine Met.ofW (cc := cX5_isIn) (maxL := 3) (ret := (some .boolean)) (by decide) rfl ?_
  intro p e s m args below meth c s₁ B hml hv
  obtain ⟨rfl, -⟩ := hv
  have hx := B.exec
  have hb := B.bytes
  have hr := B.returns
  have hts := atoms_spec (ws := wsX5_isIn) B.pre
  have hown : s.vm.findClass RX5 = some m.cls := findClass_of_methodNamed B.named
  have hlocks := B.notSynchronized
  refine mz_start (fun H locs hH hL => ?_)
  have hS : va_S (fun _ : Nat => False) s.heap H locs := by rw [hH, hL]; exact va_S.rf
  have hl := lv_entry ([.int xv, .int xl, .int xh]) (n := 3) (Nat.le_of_ble_eq_true rfl)
  rw [lg_entry_eq]
  generalize (lg_sl ([.int xv, .int xl, .int xh]) ++ List.replicate (3 - (lg_sl ([.int xv, .int xl, .int xh])).length) Slot.unset).toArray = ls at hl ⊢
  have hl : lv_has ls 3 [(0, .int xv), (1, .int xl), (2, .int xh)] := hl
  refine lv_iload_n hx hb dX5_isIn_0 rfl (lv_at hl 0 rfl) ?_
  refine lv_iload_n hx hb dX5_isIn_1 rfl (lv_at hl 1 rfl) ?_
  refine mz_lt (tgt := 14) hx hb dX5_isIn_2 (by decide) (fun c_2 => ?_) (fun c_2 => ?_)
  · refine lv_iconst (v := 0) hx hb dX5_isIn_14 (by decide) ?_
    exact W.zret (v := 0) hx hb hr rfl (fun t ht hW => ⟨⟨_, (), rfl, (by first | (simp only [isInF, if_pos c_2]; done) | (try unfold isInF; simp only [if_pos c_2]; done) | (try unfold isInF; rfl) | rfl), trivial⟩, hS.F ht⟩) hS.2.2 dX5_isIn_15
  · refine lv_iload_n hx hb dX5_isIn_5 rfl (lv_at hl 0 rfl) ?_
    refine lv_iload_n hx hb dX5_isIn_6 rfl (lv_at hl 2 rfl) ?_
    refine mz_gt (tgt := 14) hx hb dX5_isIn_7 (by decide) (fun c_7 => ?_) (fun c_7 => ?_)
    · refine lv_iconst (v := 0) hx hb dX5_isIn_14 (by decide) ?_
      exact W.zret (v := 0) hx hb hr rfl (fun t ht hW => ⟨⟨_, (), rfl, (by first | (simp only [isInF, if_neg c_2, if_pos c_7]; done) | (try unfold isInF; simp only [if_neg c_2, if_pos c_7]; done) | (try unfold isInF; rfl) | rfl), trivial⟩, hS.F ht⟩) hS.2.2 dX5_isIn_15
    · refine lv_iconst (v := 1) hx hb dX5_isIn_10 (by decide) ?_
      refine lv_goto (tgt := 15) hx hb dX5_isIn_11 (by decide) ?_
      exact W.zret (v := 1) hx hb hr rfl (fun t ht hW => ⟨⟨_, (), rfl, (by first | (simp only [isInF, if_neg c_2, if_neg c_7]; done) | (try unfold isInF; simp only [if_neg c_2, if_neg c_7]; done) | (try unfold isInF; rfl) | rfl), trivial⟩, hS.F ht⟩) hS.2.2 dX5_isIn_15
set_option maxHeartbeats 4000000 in
set_option maxRecDepth 100000 in
theorem kX5_isRegion (l : Launch) (E : ev_T) (m0 : Nat) (m1 : Nat) (m2 : Nat) (m3 : Nat) (m4 : Nat) (m5 : Nat) (m6 : Nat) (m7 : Nat) (m8 : Nat) (th : Int32) (md : Nat) (mr : Nat) (ms : Nat) (ml : Nat) (xr : Int32) (hr6 : mr ≤ 6) : Met l yX5_isRegion wsX5_isRegion ({ frames := 1, cells := 0, slots := 0, locals := 22 } : Room) (va_Pc [.ref m0, .int xr] (pr_R E [(m0, .inr (5, [.int th, .int (nI md), .int (nI mr), .ref m1, .ref m2, .ref m3, .ref m4, .ref m5, .int (nI ms), .ref m6, .int (nI ml), .ref m7, .ref m8]))])) (va_Qi (fun (r : Int32) (_ : Unit) => r = inF xr mr) (fun _ _ => True) (fun _ : Nat => False)) 0 0 (fun _ : Nat => False) := by
  refine Met.ofW (cc := cX5_isRegion) (maxL := 2) (ret := (some .boolean)) (by decide) rfl ?_
  intro p e s m args below meth c s₁ B hml hv
  obtain ⟨rfl, hP, hE⟩ := hv
  have hx := B.exec
  have hb := B.bytes
  have hr := B.returns
  have hts := atoms_spec (ws := wsX5_isRegion) B.pre
  have hown : s.vm.findClass RX5 = some m.cls := findClass_of_methodNamed B.named
  have hlocks := B.notSynchronized
  refine mz_start (fun H locs hH hL => ?_)
  have hS : va_S (fun _ : Nat => False) s.heap H locs := by rw [hH, hL]; exact va_S.rf
  have f_42 := hts (.fieldLink RX5 42 "AvalancheDeskModel" "regions" "I") (by decide +kernel)
  have inX5 : ∀ w ∈ wsX50, w ∈ wsX5_isRegion := by decide +kernel
  have hl := lv_entry ([.ref m0, .int xr]) (n := 2) (Nat.le_of_ble_eq_true rfl)
  rw [lg_entry_eq]
  generalize (lg_sl ([.ref m0, .int xr]) ++ List.replicate (2 - (lg_sl ([.ref m0, .int xr])).length) Slot.unset).toArray = ls at hl ⊢
  have hl : lv_has ls 2 [(0, .ref m0), (1, .int xr)] := hl
  have hP : va_P E.1 vwCl [(m0, .inr (5, [.int th, .int (nI md), .int (nI mr), .ref m1, .ref m2, .ref m3, .ref m4, .ref m5, .int (nI ms), .ref m6, .int (nI ml), .ref m7, .ref m8]))] H := by rw [hH]; exact hP
  refine lv_iload_n hx hb dX5_isRegion_0 rfl (lv_at hl 1 rfl) ?_
  refine lv_iconst (v := 0) hx hb dX5_isRegion_1 (by decide) ?_
  refine lv_aload_n hx hb dX5_isRegion_2 rfl (lv_at hl 0 rfl) ?_
  refine va_get (D := E.1) (ci := 5) (v := .int (nI mr)) (C := RX5) (T := TX5) (N := 13) hx hb hts inX5 hown hE.1 hP 0 rfl rfl 2 (by decide) f_42 (fun _ h9 => h9) rfl dX5_isRegion_3 ?_
  refine lv_iconst (v := 1) hx hb dX5_isRegion_6 (by decide) ?_
  refine lv_isub hx hb dX5_isRegion_7 ?_
  refine va_calli (va_runS (As := [.int xr, .int 0, .int ((nI mr) - 1)]) (rest := []) ⟨hx, hb, hml, hown, hts⟩ (kX5_isIn l E xr 0 ((nI mr) - 1)) (va_cwS 3 hts gX5_isRegion_X5_isIn rfl rfl rfl (by decide +kernel) ⟨Nat.le_of_ble_eq_true rfl, Nat.le_of_ble_eq_true rfl⟩) ⟨fb_0, fun U hU hW => ⟨rfl, trivial⟩⟩ rfl rfl hl.1 rfl (lv_room (Nat.le_of_ble_eq_true rfl)) dX5_isRegion_8 ⟨by first | exact Nat.le_of_ble_eq_true rfl | (show _ ≤ 0; omega), by first | exact Nat.le_of_ble_eq_true rfl | (show _ ≤ 0; omega)⟩) hS (fun q _ h => h.elim) (fun q h => h.elim) (fun r8_0 u t H1 locs ht hvm hw hB hz1 hk1 hS => ?_)
  have hP := hP.ro hk1
  generalize H1 = H at hP hS ⊢
  subst hw
  exact W.zret (v := isInF xr 0 ((nI mr) - 1)) hx hb hr (by rw [isIn_reg (by omega)]; exact b01 (inF_01 _ _)) (fun t ht hW => ⟨⟨_, (), rfl, (isIn_reg (by omega)), trivial⟩, hS.F ht⟩) hS.2.2 dX5_isRegion_11
set_option maxHeartbeats 4000000 in
set_option maxRecDepth 100000 in
theorem kX5_isSector (l : Launch) (E : ev_T) (m0 : Nat) (m1 : Nat) (m2 : Nat) (m3 : Nat) (m4 : Nat) (m5 : Nat) (m6 : Nat) (m7 : Nat) (m8 : Nat) (th : Int32) (md : Nat) (mr : Nat) (ms : Nat) (ml : Nat) (xr : Int32) (xs : Int32) (hr6 : mr ≤ 6) : Met l yX5_isSector wsX5_isSector ({ frames := 2, cells := 0, slots := 0, locals := 43 } : Room) (va_Pc [.ref m0, .int xr, .int xs] (pr_R E [(m0, .inr (5, [.int th, .int (nI md), .int (nI mr), .ref m1, .ref m2, .ref m3, .ref m4, .ref m5, .int (nI ms), .ref m6, .int (nI ml), .ref m7, .ref m8]))])) (va_Qi (fun (r : Int32) (_ : Unit) => r = secF xr xs mr) (fun _ _ => True) (fun _ : Nat => False)) 0 0 (fun _ : Nat => False) := by
  refine Met.ofW (cc := cX5_isSector) (maxL := 3) (ret := (some .boolean)) (by decide) rfl ?_
  intro p e s m args below meth c s₁ B hml hv
  obtain ⟨rfl, hP, hE⟩ := hv
  have hx := B.exec
  have hb := B.bytes
  have hr := B.returns
  have hts := atoms_spec (ws := wsX5_isSector) B.pre
  have hown : s.vm.findClass RX5 = some m.cls := findClass_of_methodNamed B.named
  have hlocks := B.notSynchronized
  refine mz_start (fun H locs hH hL => ?_)
  have hS : va_S (fun _ : Nat => False) s.heap H locs := by rw [hH, hL]; exact va_S.rf
  have hl := lv_entry ([.ref m0, .int xr, .int xs]) (n := 3) (Nat.le_of_ble_eq_true rfl)
  rw [lg_entry_eq]
  generalize (lg_sl ([.ref m0, .int xr, .int xs]) ++ List.replicate (3 - (lg_sl ([.ref m0, .int xr, .int xs])).length) Slot.unset).toArray = ls at hl ⊢
  have hl : lv_has ls 3 [(0, .ref m0), (1, .int xr), (2, .int xs)] := hl
  have hP : va_P E.1 vwCl [(m0, .inr (5, [.int th, .int (nI md), .int (nI mr), .ref m1, .ref m2, .ref m3, .ref m4, .ref m5, .int (nI ms), .ref m6, .int (nI ml), .ref m7, .ref m8]))] H := by rw [hH]; exact hP
  refine lv_aload_n hx hb dX5_isSector_0 rfl (lv_at hl 0 rfl) ?_
  refine lv_iload_n hx hb dX5_isSector_1 rfl (lv_at hl 1 rfl) ?_
  refine va_calli (va_runV (As := [.int xr]) (rest := []) ⟨hx, hb, hml, hown, hts⟩ (kX5_isRegion l E m0 m1 m2 m3 m4 m5 m6 m7 m8 th md mr ms ml xr (by first | omega | assumption | (intro k h; have := hz k h; omega))) (cwV 1 hts gX5_isSector_X5_isRegion rfl rfl rfl (by decide +kernel) ⟨Nat.le_of_ble_eq_true rfl, Nat.le_of_ble_eq_true rfl⟩) ⟨fb_R, va_recv hE.1 hP (ci := 5) (q0 := 0) rfl rfl, fun U hU hW => ⟨rfl, (by rw [hU]; exact hP), hE.warm hW⟩⟩ rfl rfl hl.1 rfl (lv_room (Nat.le_of_ble_eq_true rfl)) dX5_isSector_2 ⟨by first | exact Nat.le_of_ble_eq_true rfl | (show _ ≤ 0; omega), by first | exact Nat.le_of_ble_eq_true rfl | (show _ ≤ 0; omega)⟩) hS (fun q _ h => h.elim) (fun q h => h.elim) (fun r2_0 u t H1 locs ht hvm hw hB hz1 hk1 hS => ?_)
  have hP := hP.ro hk1
  generalize H1 = H at hP hS ⊢
  subst hw
  refine lv_if_eq (tgt := 22) hx hb dX5_isSector_5 (by decide) (fun c_5 => ?_) (fun c_5 => ?_)
  · refine lv_iconst (v := 0) hx hb dX5_isSector_22 (by decide) ?_
    exact W.zret (v := 0) hx hb hr rfl (fun t ht hW => ⟨⟨_, (), rfl, (by first | (simp only [secF, if_pos c_5]; done) | (try unfold secF; simp only [if_pos c_5]; done) | (try unfold secF; rfl) | rfl), trivial⟩, hS.F ht⟩) hS.2.2 dX5_isSector_23
  · refine lv_iload_n hx hb dX5_isSector_8 rfl (lv_at hl 2 rfl) ?_
    refine lv_iconst (v := 0) hx hb dX5_isSector_9 (by decide) ?_
    refine lv_bipush (v := 11) hx hb dX5_isSector_10 (by decide) ?_
    refine va_calli (va_runS (As := [.int xs, .int 0, .int 11]) (rest := []) ⟨hx, hb, hml, hown, hts⟩ (kX5_isIn l E xs 0 11) (va_cwS 3 hts gX5_isSector_X5_isIn rfl rfl rfl (by decide +kernel) ⟨Nat.le_of_ble_eq_true rfl, Nat.le_of_ble_eq_true rfl⟩) ⟨fb_0, fun U hU hW => ⟨rfl, trivial⟩⟩ rfl rfl hl.1 rfl (lv_room (Nat.le_of_ble_eq_true rfl)) dX5_isSector_12 ⟨by first | exact Nat.le_of_ble_eq_true rfl | (show _ ≤ 0; omega), by first | exact Nat.le_of_ble_eq_true rfl | (show _ ≤ 0; omega)⟩) hS (fun q _ h => h.elim) (fun q h => h.elim) (fun r12_1 u t H1 locs ht hvm hw hB hz1 hk1 hS => ?_)
    have hP := hP.ro hk1
    generalize H1 = H at hP hS ⊢
    subst hw
    refine lv_if_eq (tgt := 22) hx hb dX5_isSector_15 (by decide) (fun c_15 => ?_) (fun c_15 => ?_)
    · refine lv_iconst (v := 0) hx hb dX5_isSector_22 (by decide) ?_
      exact W.zret (v := 0) hx hb hr rfl (fun t ht hW => ⟨⟨_, (), rfl, (by first | (simp only [secF, if_neg c_5, if_pos c_15]; done) | (try unfold secF; simp only [if_neg c_5, if_pos c_15]; done) | (try unfold secF; rfl) | rfl), trivial⟩, hS.F ht⟩) hS.2.2 dX5_isSector_23
    · refine lv_iconst (v := 1) hx hb dX5_isSector_18 (by decide) ?_
      refine lv_goto (tgt := 23) hx hb dX5_isSector_19 (by decide) ?_
      exact W.zret (v := 1) hx hb hr rfl (fun t ht hW => ⟨⟨_, (), rfl, (by first | (simp only [secF, if_neg c_5, if_neg c_15]; done) | (try unfold secF; simp only [if_neg c_5, if_neg c_15]; done) | (try unfold secF; rfl) | rfl), trivial⟩, hS.F ht⟩) hS.2.2 dX5_isSector_23
set_option maxHeartbeats 4000000 in
set_option maxRecDepth 100000 in
theorem kX5_most (l : Launch) (E : ev_T) (xw : Int32) : Met l yX5_most wsX5_most ({ frames := 0, cells := 0, slots := 0, locals := 0 } : Room) (va_Pc [.int xw] (fun _ => True)) (va_Qi (fun (r : Int32) (_ : Unit) => r = gr xw) (fun _ _ => True) (fun _ : Nat => False)) 0 0 (fun _ : Nat => False) := by
  refine Met.ofW (cc := cX5_most) (maxL := 1) (ret := (some .int)) (by decide) rfl ?_
  intro p e s m args below meth c s₁ B hml hv
  obtain ⟨rfl, -⟩ := hv
  have hx := B.exec
  have hb := B.bytes
  have hr := B.returns
  have hts := atoms_spec (ws := wsX5_most) B.pre
  have hown : s.vm.findClass RX5 = some m.cls := findClass_of_methodNamed B.named
  have hlocks := B.notSynchronized
  refine mz_start (fun H locs hH hL => ?_)
  have hS : va_S (fun _ : Nat => False) s.heap H locs := by rw [hH, hL]; exact va_S.rf
  have hl := lv_entry ([.int xw]) (n := 1) (Nat.le_of_ble_eq_true rfl)
  rw [lg_entry_eq]
  generalize (lg_sl ([.int xw]) ++ List.replicate (1 - (lg_sl ([.int xw])).length) Slot.unset).toArray = ls at hl ⊢
  have hl : lv_has ls 1 [(0, .int xw)] := hl
  refine lv_iload_n hx hb dX5_most_0 rfl (lv_at hl 0 rfl) ?_
  refine lv_iconst (v := 4) hx hb dX5_most_1 (by decide) ?_
  refine lv_icmp_ne (tgt := 10) hx hb dX5_most_2 (by decide) (fun c_2 => ?_) (fun c_2 => ?_)
  · refine lv_bipush (v := 100) hx hb dX5_most_10 (by decide) ?_
    exact W.iret (v := 100) hx hb hr (fun t ht hW => ⟨⟨_, (), rfl, (by first | (simp only [gr, if_neg c_2]; done) | (try unfold gr; simp only [if_neg c_2]; done) | (try unfold gr; rfl) | rfl), trivial⟩, hS.F ht⟩) hS.2.2 dX5_most_12
  · refine lv_bipush (v := 10) hx hb dX5_most_5 (by decide) ?_
    refine lv_goto (tgt := 12) hx hb dX5_most_7 (by decide) ?_
    exact W.iret (v := 10) hx hb hr (fun t ht hW => ⟨⟨_, (), rfl, (by first | (simp only [gr, if_pos c_2]; done) | (try unfold gr; simp only [if_pos c_2]; done) | (try unfold gr; rfl) | rfl), trivial⟩, hS.F ht⟩) hS.2.2 dX5_most_12
set_option maxHeartbeats 4000000 in
set_option maxRecDepth 100000 in
theorem kX5_at (l : Launch) (E : ev_T) (rg : Nat) (sc : Nat) : Met l yX5_at wsX5_at ({ frames := 0, cells := 0, slots := 0, locals := 0 } : Room) (va_Pc [.int (nI rg), .int (nI sc)] (fun _ => True)) (va_Qi (fun (r : Int32) (_ : Unit) => r = nI ((12 * rg + sc) * 5)) (fun _ _ => True) (fun _ : Nat => False)) 0 0 (fun _ : Nat => False) := by
  refine Met.ofW (cc := cX5_at) (maxL := 2) (ret := (some .int)) (by decide) rfl ?_
  intro p e s m args below meth c s₁ B hml hv
  obtain ⟨rfl, -⟩ := hv
  have hx := B.exec
  have hb := B.bytes
  have hr := B.returns
  have hts := atoms_spec (ws := wsX5_at) B.pre
  have hown : s.vm.findClass RX5 = some m.cls := findClass_of_methodNamed B.named
  have hlocks := B.notSynchronized
  refine mz_start (fun H locs hH hL => ?_)
  have hS : va_S (fun _ : Nat => False) s.heap H locs := by rw [hH, hL]; exact va_S.rf
  have hl := lv_entry ([.int (nI rg), .int (nI sc)]) (n := 2) (Nat.le_of_ble_eq_true rfl)
  rw [lg_entry_eq]
  generalize (lg_sl ([.int (nI rg), .int (nI sc)]) ++ List.replicate (2 - (lg_sl ([.int (nI rg), .int (nI sc)])).length) Slot.unset).toArray = ls at hl ⊢
  have hl : lv_has ls 2 [(0, .int (nI rg)), (1, .int (nI sc))] := hl
  refine lv_bipush (v := 12) hx hb dX5_at_0 (by decide) ?_
  refine lv_iload_n hx hb dX5_at_2 rfl (lv_at hl 0 rfl) ?_
  refine mz_mulN hx hb 12 rg dX5_at_3 ?_
  refine lv_iload_n hx hb dX5_at_4 rfl (lv_at hl 1 rfl) ?_
  refine mz_addN hx hb (12 * rg) sc dX5_at_5 ?_
  refine lv_iconst (v := 5) hx hb dX5_at_6 (by decide) ?_
  refine mz_mulN hx hb ((12 * rg) + sc) 5 dX5_at_7 ?_
  exact W.iret (v := nI (((12 * rg) + sc) * 5)) hx hb hr (fun t ht hW => ⟨⟨_, (), rfl, (by first | rfl), trivial⟩, hS.F ht⟩) hS.2.2 dX5_at_8
set_option maxHeartbeats 4000000 in
set_option maxRecDepth 100000 in
theorem kX5_isWeather (l : Launch) (E : ev_T) (xn : Int32) (xw : Int32) (xf : Int32) (xt : Int32) : Met l yX5_isWeather wsX5_isWeather ({ frames := 1, cells := 0, slots := 0, locals := 22 } : Room) (va_Pc [.int xn, .int xw, .int xf, .int xt] (fun _ => True)) (va_Qi (fun (r : Int32) (_ : Unit) => r = wthF xn xw xf xt) (fun _ _ => True) (fun _ : Nat => False)) 0 0 (fun _ : Nat => False) := by
  refine Met.ofW (cc := cX5_isWeather) (maxL := 4) (ret := (some .boolean)) (by decide) rfl ?_
  intro p e s m args below meth c s₁ B hml hv
  obtain ⟨rfl, -⟩ := hv
  have hx := B.exec
  have hb := B.bytes
  have hr := B.returns
  have hts := atoms_spec (ws := wsX5_isWeather) B.pre
  have hown : s.vm.findClass RX5 = some m.cls := findClass_of_methodNamed B.named
  have hlocks := B.notSynchronized
  refine mz_start (fun H locs hH hL => ?_)
  have hS : va_S (fun _ : Nat => False) s.heap H locs := by rw [hH, hL]; exact va_S.rf
  have hl := lv_entry ([.int xn, .int xw, .int xf, .int xt]) (n := 4) (Nat.le_of_ble_eq_true rfl)
  rw [lg_entry_eq]
  generalize (lg_sl ([.int xn, .int xw, .int xf, .int xt]) ++ List.replicate (4 - (lg_sl ([.int xn, .int xw, .int xf, .int xt])).length) Slot.unset).toArray = ls at hl ⊢
  have hl : lv_has ls 4 [(0, .int xn), (1, .int xw), (2, .int xf), (3, .int xt)] := hl
  refine lv_iload_n hx hb dX5_isWeather_0 rfl (lv_at hl 0 rfl) ?_
  refine lv_iconst (v := 0) hx hb dX5_isWeather_1 (by decide) ?_
  refine lv_sipush (v := 150) hx hb dX5_isWeather_2 (by decide) ?_
  refine va_calli (va_runS (As := [.int xn, .int 0, .int 150]) (rest := []) ⟨hx, hb, hml, hown, hts⟩ (kX5_isIn l E xn 0 150) (va_cwS 3 hts gX5_isWeather_X5_isIn rfl rfl rfl (by decide +kernel) ⟨Nat.le_of_ble_eq_true rfl, Nat.le_of_ble_eq_true rfl⟩) ⟨fb_0, fun U hU hW => ⟨rfl, trivial⟩⟩ rfl rfl hl.1 rfl (lv_room (Nat.le_of_ble_eq_true rfl)) dX5_isWeather_5 ⟨by first | exact Nat.le_of_ble_eq_true rfl | (show _ ≤ 0; omega), by first | exact Nat.le_of_ble_eq_true rfl | (show _ ≤ 0; omega)⟩) hS (fun q _ h => h.elim) (fun q h => h.elim) (fun r5_0 u t H1 locs ht hvm hw hB hz1 hk1 hS => ?_)
  generalize H1 = H at hS ⊢
  subst hw
  refine lv_if_eq (tgt := 45) hx hb dX5_isWeather_8 (by decide) (fun c_8 => ?_) (fun c_8 => ?_)
  · refine lv_iconst (v := 0) hx hb dX5_isWeather_45 (by decide) ?_
    exact W.zret (v := 0) hx hb hr rfl (fun t ht hW => ⟨⟨_, (), rfl, (by first | (simp only [wthF, if_pos c_8]; done) | (try unfold wthF; simp only [if_pos c_8]; done) | (try unfold wthF; rfl) | rfl), trivial⟩, hS.F ht⟩) hS.2.2 dX5_isWeather_46
  · refine lv_iload_n hx hb dX5_isWeather_11 rfl (lv_at hl 1 rfl) ?_
    refine lv_iconst (v := 0) hx hb dX5_isWeather_12 (by decide) ?_
    refine lv_bipush (v := 120) hx hb dX5_isWeather_13 (by decide) ?_
    refine va_calli (va_runS (As := [.int xw, .int 0, .int 120]) (rest := []) ⟨hx, hb, hml, hown, hts⟩ (kX5_isIn l E xw 0 120) (va_cwS 3 hts gX5_isWeather_X5_isIn rfl rfl rfl (by decide +kernel) ⟨Nat.le_of_ble_eq_true rfl, Nat.le_of_ble_eq_true rfl⟩) ⟨fb_0, fun U hU hW => ⟨rfl, trivial⟩⟩ rfl rfl hl.1 rfl (lv_room (Nat.le_of_ble_eq_true rfl)) dX5_isWeather_15 ⟨by first | exact Nat.le_of_ble_eq_true rfl | (show _ ≤ 0; omega), by first | exact Nat.le_of_ble_eq_true rfl | (show _ ≤ 0; omega)⟩) hS (fun q _ h => h.elim) (fun q h => h.elim) (fun r15_1 u t H1 locs ht hvm hw hB hz1 hk1 hS => ?_)
    generalize H1 = H at hS ⊢
    subst hw
    refine lv_if_eq (tgt := 45) hx hb dX5_isWeather_18 (by decide) (fun c_18 => ?_) (fun c_18 => ?_)
    · refine lv_iconst (v := 0) hx hb dX5_isWeather_45 (by decide) ?_
      exact W.zret (v := 0) hx hb hr rfl (fun t ht hW => ⟨⟨_, (), rfl, (by first | (simp only [wthF, if_neg c_8, if_pos c_18]; done) | (try unfold wthF; simp only [if_neg c_8, if_pos c_18]; done) | (try unfold wthF; rfl) | rfl), trivial⟩, hS.F ht⟩) hS.2.2 dX5_isWeather_46
    · refine lv_iload_n hx hb dX5_isWeather_21 rfl (lv_at hl 2 rfl) ?_
      refine lv_iconst (v := 0) hx hb dX5_isWeather_22 (by decide) ?_
      refine lv_iconst (v := 3) hx hb dX5_isWeather_23 (by decide) ?_
      refine va_calli (va_runS (As := [.int xf, .int 0, .int 3]) (rest := []) ⟨hx, hb, hml, hown, hts⟩ (kX5_isIn l E xf 0 3) (va_cwS 3 hts gX5_isWeather_X5_isIn rfl rfl rfl (by decide +kernel) ⟨Nat.le_of_ble_eq_true rfl, Nat.le_of_ble_eq_true rfl⟩) ⟨fb_0, fun U hU hW => ⟨rfl, trivial⟩⟩ rfl rfl hl.1 rfl (lv_room (Nat.le_of_ble_eq_true rfl)) dX5_isWeather_24 ⟨by first | exact Nat.le_of_ble_eq_true rfl | (show _ ≤ 0; omega), by first | exact Nat.le_of_ble_eq_true rfl | (show _ ≤ 0; omega)⟩) hS (fun q _ h => h.elim) (fun q h => h.elim) (fun r24_2 u t H1 locs ht hvm hw hB hz1 hk1 hS => ?_)
      generalize H1 = H at hS ⊢
      subst hw
      refine lv_if_eq (tgt := 45) hx hb dX5_isWeather_27 (by decide) (fun c_27 => ?_) (fun c_27 => ?_)
      · refine lv_iconst (v := 0) hx hb dX5_isWeather_45 (by decide) ?_
        exact W.zret (v := 0) hx hb hr rfl (fun t ht hW => ⟨⟨_, (), rfl, (by first | (simp only [wthF, if_neg c_8, if_neg c_18, if_pos c_27]; done) | (try unfold wthF; simp only [if_neg c_8, if_neg c_18, if_pos c_27]; done) | (try unfold wthF; rfl) | rfl), trivial⟩, hS.F ht⟩) hS.2.2 dX5_isWeather_46
      · refine lv_iload_n hx hb dX5_isWeather_30 rfl (lv_at hl 3 rfl) ?_
        refine lv_bipush (v := (-30)) hx hb dX5_isWeather_31 (by decide) ?_
        refine lv_bipush (v := 15) hx hb dX5_isWeather_33 (by decide) ?_
        refine va_calli (va_runS (As := [.int xt, .int (-30), .int 15]) (rest := []) ⟨hx, hb, hml, hown, hts⟩ (kX5_isIn l E xt (-30) 15) (va_cwS 3 hts gX5_isWeather_X5_isIn rfl rfl rfl (by decide +kernel) ⟨Nat.le_of_ble_eq_true rfl, Nat.le_of_ble_eq_true rfl⟩) ⟨fb_0, fun U hU hW => ⟨rfl, trivial⟩⟩ rfl rfl hl.1 rfl (lv_room (Nat.le_of_ble_eq_true rfl)) dX5_isWeather_35 ⟨by first | exact Nat.le_of_ble_eq_true rfl | (show _ ≤ 0; omega), by first | exact Nat.le_of_ble_eq_true rfl | (show _ ≤ 0; omega)⟩) hS (fun q _ h => h.elim) (fun q h => h.elim) (fun r35_3 u t H1 locs ht hvm hw hB hz1 hk1 hS => ?_)
        generalize H1 = H at hS ⊢
        subst hw
        refine lv_if_eq (tgt := 45) hx hb dX5_isWeather_38 (by decide) (fun c_38 => ?_) (fun c_38 => ?_)
        · refine lv_iconst (v := 0) hx hb dX5_isWeather_45 (by decide) ?_
          exact W.zret (v := 0) hx hb hr rfl (fun t ht hW => ⟨⟨_, (), rfl, (by first | (simp only [wthF, if_neg c_8, if_neg c_18, if_neg c_27, if_pos c_38]; done) | (try unfold wthF; simp only [if_neg c_8, if_neg c_18, if_neg c_27, if_pos c_38]; done) | (try unfold wthF; rfl) | rfl), trivial⟩, hS.F ht⟩) hS.2.2 dX5_isWeather_46
        · refine lv_iconst (v := 1) hx hb dX5_isWeather_41 (by decide) ?_
          refine lv_goto (tgt := 46) hx hb dX5_isWeather_42 (by decide) ?_
          exact W.zret (v := 1) hx hb hr rfl (fun t ht hW => ⟨⟨_, (), rfl, (by first | (simp only [wthF, if_neg c_8, if_neg c_18, if_neg c_27, if_neg c_38]; done) | (try unfold wthF; simp only [if_neg c_8, if_neg c_18, if_neg c_27, if_neg c_38]; done) | (try unfold wthF; rfl) | rfl), trivial⟩, hS.F ht⟩) hS.2.2 dX5_isWeather_46
set_option maxHeartbeats 4000000 in
set_option maxRecDepth 100000 in
theorem kX5_place (l : Launch) (E : ev_T) (dy : Nat) (rg : Nat) : Met l yX5_place wsX5_place ({ frames := 0, cells := 0, slots := 0, locals := 0 } : Room) (va_Pc [.int (nI dy), .int (nI rg)] (fun _ => True)) (va_Qi (fun (r : Int32) (_ : Unit) => r = nI ((6 * dy + rg) * 3)) (fun _ _ => True) (fun _ : Nat => False)) 0 0 (fun _ : Nat => False) := by
  refine Met.ofW (cc := cX5_place) (maxL := 2) (ret := (some .int)) (by decide) rfl ?_
  intro p e s m args below meth c s₁ B hml hv
  obtain ⟨rfl, -⟩ := hv
  have hx := B.exec
  have hb := B.bytes
  have hr := B.returns
  have hts := atoms_spec (ws := wsX5_place) B.pre
  have hown : s.vm.findClass RX5 = some m.cls := findClass_of_methodNamed B.named
  have hlocks := B.notSynchronized
  refine mz_start (fun H locs hH hL => ?_)
  have hS : va_S (fun _ : Nat => False) s.heap H locs := by rw [hH, hL]; exact va_S.rf
  have hl := lv_entry ([.int (nI dy), .int (nI rg)]) (n := 2) (Nat.le_of_ble_eq_true rfl)
  rw [lg_entry_eq]
  generalize (lg_sl ([.int (nI dy), .int (nI rg)]) ++ List.replicate (2 - (lg_sl ([.int (nI dy), .int (nI rg)])).length) Slot.unset).toArray = ls at hl ⊢
  have hl : lv_has ls 2 [(0, .int (nI dy)), (1, .int (nI rg))] := hl
  refine lv_bipush (v := 6) hx hb dX5_place_0 (by decide) ?_
  refine lv_iload_n hx hb dX5_place_2 rfl (lv_at hl 0 rfl) ?_
  refine mz_mulN hx hb 6 dy dX5_place_3 ?_
  refine lv_iload_n hx hb dX5_place_4 rfl (lv_at hl 1 rfl) ?_
  refine mz_addN hx hb (6 * dy) rg dX5_place_5 ?_
  refine lv_iconst (v := 3) hx hb dX5_place_6 (by decide) ?_
  refine mz_mulN hx hb ((6 * dy) + rg) 3 dX5_place_7 ?_
  exact W.iret (v := nI (((6 * dy) + rg) * 3)) hx hb hr (fun t ht hW => ⟨⟨_, (), rfl, (by first | rfl), trivial⟩, hS.F ht⟩) hS.2.2 dX5_place_8
set_option maxHeartbeats 4000000 in
set_option maxRecDepth 100000 in
theorem kX5_levelBy (l : Launch) (E : ev_T) (dd : Int32) : Met l yX5_levelBy wsX5_levelBy ({ frames := 0, cells := 0, slots := 0, locals := 0 } : Room) (va_Pc [.int dd] (fun _ => True)) (va_Qi (fun (r : Int32) (_ : Unit) => r = lvD dd) (fun _ _ => True) (fun _ : Nat => False)) 0 0 (fun _ : Nat => False) := by
  refine Met.ofW (cc := cX5_levelBy) (maxL := 1) (ret := (some .int)) (by decide) rfl ?_
  intro p e s m args below meth c s₁ B hml hv
  obtain ⟨rfl, -⟩ := hv
  have hx := B.exec
  have hb := B.bytes
  have hr := B.returns
  have hts := atoms_spec (ws := wsX5_levelBy) B.pre
  have hown : s.vm.findClass RX5 = some m.cls := findClass_of_methodNamed B.named
  have hlocks := B.notSynchronized
  refine mz_start (fun H locs hH hL => ?_)
  have hS : va_S (fun _ : Nat => False) s.heap H locs := by rw [hH, hL]; exact va_S.rf
  have hl := lv_entry ([.int dd]) (n := 1) (Nat.le_of_ble_eq_true rfl)
  rw [lg_entry_eq]
  generalize (lg_sl ([.int dd]) ++ List.replicate (1 - (lg_sl ([.int dd])).length) Slot.unset).toArray = ls at hl ⊢
  have hl : lv_has ls 1 [(0, .int dd)] := hl
  refine lv_iload_n hx hb dX5_levelBy_0 rfl (lv_at hl 0 rfl) ?_
  refine lv_bipush (v := 10) hx hb dX5_levelBy_1 (by decide) ?_
  refine mz_ge (tgt := 10) hx hb dX5_levelBy_3 (by decide) (fun c_3 => ?_) (fun c_3 => ?_)
  · refine lv_iload_n hx hb dX5_levelBy_10 rfl (lv_at hl 0 rfl) ?_
    refine lv_bipush (v := 30) hx hb dX5_levelBy_11 (by decide) ?_
    refine mz_ge (tgt := 20) hx hb dX5_levelBy_13 (by decide) (fun c_13 => ?_) (fun c_13 => ?_)
    · refine lv_iload_n hx hb dX5_levelBy_20 rfl (lv_at hl 0 rfl) ?_
      refine lv_bipush (v := 55) hx hb dX5_levelBy_21 (by decide) ?_
      refine mz_ge (tgt := 30) hx hb dX5_levelBy_23 (by decide) (fun c_23 => ?_) (fun c_23 => ?_)
      · refine lv_iload_n hx hb dX5_levelBy_30 rfl (lv_at hl 0 rfl) ?_
        refine lv_bipush (v := 80) hx hb dX5_levelBy_31 (by decide) ?_
        refine mz_ge (tgt := 40) hx hb dX5_levelBy_33 (by decide) (fun c_33 => ?_) (fun c_33 => ?_)
        · refine lv_iconst (v := 5) hx hb dX5_levelBy_40 (by decide) ?_
          exact W.iret (v := 5) hx hb hr (fun t ht hW => ⟨⟨_, (), rfl, (by first | (simp only [lvD, if_neg c_3, if_neg c_13, if_neg c_23, if_neg c_33]; done) | (try unfold lvD; simp only [if_neg c_3, if_neg c_13, if_neg c_23, if_neg c_33]; done) | (try unfold lvD; rfl) | rfl), trivial⟩, hS.F ht⟩) hS.2.2 dX5_levelBy_41
        · refine lv_iconst (v := 4) hx hb dX5_levelBy_36 (by decide) ?_
          refine lv_goto (tgt := 41) hx hb dX5_levelBy_37 (by decide) ?_
          exact W.iret (v := 4) hx hb hr (fun t ht hW => ⟨⟨_, (), rfl, (by first | (simp only [lvD, if_neg c_3, if_neg c_13, if_neg c_23, if_pos c_33]; done) | (try unfold lvD; simp only [if_neg c_3, if_neg c_13, if_neg c_23, if_pos c_33]; done) | (try unfold lvD; rfl) | rfl), trivial⟩, hS.F ht⟩) hS.2.2 dX5_levelBy_41
      · refine lv_iconst (v := 3) hx hb dX5_levelBy_26 (by decide) ?_
        refine lv_goto (tgt := 41) hx hb dX5_levelBy_27 (by decide) ?_
        exact W.iret (v := 3) hx hb hr (fun t ht hW => ⟨⟨_, (), rfl, (by first | (simp only [lvD, if_neg c_3, if_neg c_13, if_pos c_23]; done) | (try unfold lvD; simp only [if_neg c_3, if_neg c_13, if_pos c_23]; done) | (try unfold lvD; rfl) | rfl), trivial⟩, hS.F ht⟩) hS.2.2 dX5_levelBy_41
    · refine lv_iconst (v := 2) hx hb dX5_levelBy_16 (by decide) ?_
      refine lv_goto (tgt := 41) hx hb dX5_levelBy_17 (by decide) ?_
      exact W.iret (v := 2) hx hb hr (fun t ht hW => ⟨⟨_, (), rfl, (by first | (simp only [lvD, if_neg c_3, if_pos c_13]; done) | (try unfold lvD; simp only [if_neg c_3, if_pos c_13]; done) | (try unfold lvD; rfl) | rfl), trivial⟩, hS.F ht⟩) hS.2.2 dX5_levelBy_41
  · refine lv_iconst (v := 1) hx hb dX5_levelBy_6 (by decide) ?_
    refine lv_goto (tgt := 41) hx hb dX5_levelBy_7 (by decide) ?_
    exact W.iret (v := 1) hx hb hr (fun t ht hW => ⟨⟨_, (), rfl, (by first | (simp only [lvD, if_pos c_3]; done) | (try unfold lvD; simp only [if_pos c_3]; done) | (try unfold lvD; rfl) | rfl), trivial⟩, hS.F ht⟩) hS.2.2 dX5_levelBy_41
set_option maxHeartbeats 4000000 in
set_option maxRecDepth 100000 in
theorem kX5_problemOf (l : Launch) (E : ev_T) (g0 : Nat) (nn : Nat) (f0 : Nat → Int32) (pl : Nat) (pb : Nat) (hp : pl + 5 ≤ nn) (hn : nn < 2147483648) (hq : pb < 4) : Met l yX5_problemOf wsX5_problemOf ({ frames := 1, cells := 0, slots := 0, locals := 14 } : Room) (va_Pc [.ref g0, .int (nI pl), .int (nI pb)] (pr_R E [(g0, .inl (E.2.1 0, nn, .inl f0))])) (va_Qi (fun (r : Int32) (_ : Unit) => r = prR (rwM f0 pl) pb) (fun _ _ => True) (fun _ : Nat => False)) 0 0 (fun _ : Nat => False) := by
  refine Met.ofW (cc := cX5_problemOf) (maxL := 3) (ret := (some .int)) (by decide) rfl ?_
  intro p e s m args below meth c s₁ B hml hv
  obtain ⟨rfl, hP, hE⟩ := hv
  have hx := B.exec
  have hb := B.bytes
  have hr := B.returns
  have hts := atoms_spec (ws := wsX5_problemOf) B.pre
  have hown : s.vm.findClass RX5 = some m.cls := findClass_of_methodNamed B.named
  have hlocks := B.notSynchronized
  refine mz_start (fun H locs hH hL => ?_)
  have hS : va_S (fun _ : Nat => False) s.heap H locs := by rw [hH, hL]; exact va_S.rf
  have ml_64 := hts (.methodLink RX5 64 Lib.Math.min.name) (by decide +kernel)
  have ms_min := hts (.static Lib.Math.min.name) (by decide +kernel)
  have mi := hts (.initialized "java/lang/Math") (by decide +kernel)
  have mc_min := hts (.code Lib.Math.min.name Lib.Math.min.code 2 (some .int)) (by decide +kernel)
  have hl := lv_entry ([.ref g0, .int (nI pl), .int (nI pb)]) (n := 3) (Nat.le_of_ble_eq_true rfl)
  rw [lg_entry_eq]
  generalize (lg_sl ([.ref g0, .int (nI pl), .int (nI pb)]) ++ List.replicate (3 - (lg_sl ([.ref g0, .int (nI pl), .int (nI pb)])).length) Slot.unset).toArray = ls at hl ⊢
  have hl : lv_has ls 3 [(0, .ref g0), (1, .int (nI pl)), (2, .int (nI pb))] := hl
  have hP : va_P E.1 vwCl [(g0, .inl (E.2.1 0, nn, .inl f0))] H := by rw [hH]; exact hP
  refine lv_iload_n hx hb dX5_problemOf_0 rfl (lv_at hl 2 rfl) ?_
  refine lv_iconst (v := 2) hx hb dX5_problemOf_1 (by decide) ?_
  refine mz_eqN hx hb pb 2 (tgt := 11) dX5_problemOf_2 (by decide) (by omega) (by omega) (fun c_2 => ?_) (fun c_2 => ?_)
  · subst c_2
    refine lv_aload_n hx hb dX5_problemOf_11 rfl (lv_at hl 0 rfl) ?_
    refine lv_iload_n hx hb dX5_problemOf_12 rfl (lv_at hl 1 rfl) ?_
    refine lv_iconst (v := 2) hx hb dX5_problemOf_13 (by decide) ?_
    refine mz_addN hx hb pl 2 dX5_problemOf_14 ?_
    refine mz_ild hx hb hE.1 hP 0 0 (f := f0) (n := nn) rfl rfl (pl + 2) (by omega) (by omega) dX5_problemOf_15 ?_
    refine lv_bipush (v := 100) hx hb dX5_problemOf_16 (by decide) ?_
    refine lv_aload_n hx hb dX5_problemOf_18 rfl (lv_at hl 0 rfl) ?_
    refine lv_iload_n hx hb dX5_problemOf_19 rfl (lv_at hl 1 rfl) ?_
    refine lv_iconst (v := 0) hx hb dX5_problemOf_20 (by decide) ?_
    refine mz_addN hx hb pl 0 dX5_problemOf_21 ?_
    refine mz_ild hx hb hE.1 hP 0 0 (f := f0) (n := nn) rfl rfl (pl + 0) (by omega) (by omega) dX5_problemOf_22 ?_
    refine lv_aload_n hx hb dX5_problemOf_23 rfl (lv_at hl 0 rfl) ?_
    refine lv_iload_n hx hb dX5_problemOf_24 rfl (lv_at hl 1 rfl) ?_
    refine lv_iconst (v := 1) hx hb dX5_problemOf_25 (by decide) ?_
    refine mz_addN hx hb pl 1 dX5_problemOf_26 ?_
    refine mz_ild hx hb hE.1 hP 0 0 (f := f0) (n := nn) rfl rfl (pl + 1) (by omega) (by omega) dX5_problemOf_27 ?_
    refine lv_iadd hx hb dX5_problemOf_28 ?_
    refine mz_min hx hb (hml.trans hl.1.symm) hown ml_64 ms_min mi mc_min (Nat.le_of_ble_eq_true rfl) (Nat.le_of_ble_eq_true rfl) (by first | exact Nat.le_of_ble_eq_true rfl | (show _ ≤ 0; omega)) (by first | exact Nat.le_of_ble_eq_true rfl | (show _ ≤ 0; omega)) dX5_problemOf_29 ?_
    refine lv_imul hx hb dX5_problemOf_32 ?_
    refine lv_bipush (v := 100) hx hb dX5_problemOf_33 (by decide) ?_
    refine lv_idiv hx hb dX5_problemOf_35 (by decide) ?_
    exact W.iret (v := ((f0 (pl + 2)) * (mn 100 ((f0 (pl + 0)) + (f0 (pl + 1))))) / 100) hx hb hr (fun t ht hW => ⟨⟨_, (), rfl, (by first | (simp only [prR, rwM, eq_self, if_true]; done) | (try unfold prR; try unfold rwM; simp only [eq_self, if_true]; done) | (try unfold prR; try unfold rwM; rfl) | rfl), trivial⟩, hS.F ht⟩) hS.2.2 dX5_problemOf_36
  · refine lv_aload_n hx hb dX5_problemOf_5 rfl (lv_at hl 0 rfl) ?_
    refine lv_iload_n hx hb dX5_problemOf_6 rfl (lv_at hl 1 rfl) ?_
    refine lv_iload_n hx hb dX5_problemOf_7 rfl (lv_at hl 2 rfl) ?_
    refine mz_addN hx hb pl pb dX5_problemOf_8 ?_
    refine mz_ild hx hb hE.1 hP 0 0 (f := f0) (n := nn) rfl rfl (pl + pb) (by omega) (by omega) dX5_problemOf_9 ?_
    exact W.iret (v := f0 (pl + pb)) hx hb hr (fun t ht hW => ⟨⟨_, (), rfl, (by first | (simp only [prR, rwM, if_neg c_2]; done) | (try unfold prR; try unfold rwM; simp only [if_neg c_2]; done) | (try unfold prR; try unfold rwM; rfl) | rfl), trivial⟩, hS.F ht⟩) hS.2.2 dX5_problemOf_10
set_option maxHeartbeats 4000000 in
set_option maxRecDepth 100000 in
theorem kX5_dangerOf (l : Launch) (E : ev_T) (g0 : Nat) (nn : Nat) (f0 : Nat → Int32) (pl : Nat) (hp : pl + 5 ≤ nn) (hn : nn < 2147483648) : Met l yX5_dangerOf wsX5_dangerOf ({ frames := 2, cells := 0, slots := 0, locals := 36 } : Room) (va_Pc [.ref g0, .int (nI pl)] (pr_R E [(g0, .inl (E.2.1 0, nn, .inl f0))])) (va_Qi (fun (r : Int32) (_ : Unit) => r = dngM (rwM f0 pl)) (fun _ _ => True) (fun _ : Nat => False)) 0 0 (fun _ : Nat => False) := by
  refine Met.ofW (cc := cX5_dangerOf) (maxL := 6) (ret := (some .int)) (by decide) rfl ?_
  intro p e s m args below meth c s₁ B hml hv
  obtain ⟨rfl, hP, hE⟩ := hv
  have hx := B.exec
  have hb := B.bytes
  have hr := B.returns
  have hts := atoms_spec (ws := wsX5_dangerOf) B.pre
  have hown : s.vm.findClass RX5 = some m.cls := findClass_of_methodNamed B.named
  have hlocks := B.notSynchronized
  refine mz_start (fun H locs hH hL => ?_)
  have hS : va_S (fun _ : Nat => False) s.heap H locs := by rw [hH, hL]; exact va_S.rf
  have ml_105 := hts (.methodLink RX5 105 Lib.Math.max.name) (by decide +kernel)
  have ms_max := hts (.static Lib.Math.max.name) (by decide +kernel)
  have mi := hts (.initialized "java/lang/Math") (by decide +kernel)
  have mc_max := hts (.code Lib.Math.max.name Lib.Math.max.code 2 (some .int)) (by decide +kernel)
  have hl := lv_entry ([.ref g0, .int (nI pl)]) (n := 6) (Nat.le_of_ble_eq_true rfl)
  rw [lg_entry_eq]
  generalize (lg_sl ([.ref g0, .int (nI pl)]) ++ List.replicate (6 - (lg_sl ([.ref g0, .int (nI pl)])).length) Slot.unset).toArray = ls at hl ⊢
  have hl : lv_has ls 6 [(0, .ref g0), (1, .int (nI pl))] := hl
  have hP : va_P E.1 vwCl [(g0, .inl (E.2.1 0, nn, .inl f0))] H := by rw [hH]; exact hP
  refine lv_iconst (v := 0) hx hb dX5_dangerOf_0 (by decide) ?_
  refine lv_istore_n (lv' := [(2, .int 0), (0, .ref g0), (1, .int (nI pl))]) hx hb dX5_dangerOf_1 rfl hl (by decide) rfl (fun ls hl => ?_)
  refine lv_iconst (v := 0) hx hb dX5_dangerOf_2 (by decide) ?_
  refine lv_istore_n (lv' := [(3, .int 0), (2, .int 0), (0, .ref g0), (1, .int (nI pl))]) hx hb dX5_dangerOf_3 rfl hl (by decide) rfl (fun ls hl => ?_)
  refine lv_iconst (v := 0) hx hb dX5_dangerOf_4 (by decide) ?_
  refine lv_istore (lv' := [(4, .int 0), (3, .int 0), (2, .int 0), (0, .ref g0), (1, .int (nI pl))]) hx hb dX5_dangerOf_5 hl (by decide) rfl (fun ls hl => ?_)
  have KL7 : ∀ (n7 ii : Nat), ii ≤ 4 → 4 < n7 + ii → ∀ (H : Heap) (locs : List Loc) (ls : Array Slot), va_P E.1 vwCl [(g0, .inl (E.2.1 0, nn, .inl f0))] H → va_S (fun _ : Nat => False) s.heap H locs → lv_has ls 6 [(4, .int (nI ii)), (3, .int ((dgM (rwM f0 pl) ii).2)), (2, .int ((dgM (rwM f0 pl) ii).1)), (0, .ref g0), (1, .int (nI pl))] → W p l e (headSpec wsX5_dangerOf ({ frames := 2, cells := 0, slots := 0, locals := 36 } : Room)).room s m [.ref g0, .int (nI pl)].toArray below meth c H locs 0 0 (MQ below (va_Qi (fun (r : Int32) (_ : Unit) => r = dngM (rwM f0 pl)) (fun _ _ => True) (fun _ : Nat => False)) [.ref g0, .int (nI pl)].toArray s 0 0 (fun _ : Nat => False)) (F0 m 7 ls []) := by
    intro n7
    induction n7 with
    | zero => intro ii h1 h2; exact absurd h2 (by omega)
    | succ n7 ih7 =>
      intro ii hi7 hn7 H locs ls hP hS hl
      refine lv_iload hx hb dX5_dangerOf_7 (lv_at hl 0 rfl) ?_
      refine lv_iconst (v := 4) hx hb dX5_dangerOf_9 (by decide) ?_
      refine mz_geN hx hb ii 4 (tgt := 52) dX5_dangerOf_10 (by decide) (by omega) (by omega) (fun c_10 => ?_) (fun c_10 => ?_)
      · have hq99 : ii = 4 := by omega
        subst ii
        refine lv_iload_n hx hb dX5_dangerOf_52 rfl (lv_at hl 2 rfl) ?_
        refine lv_iload_n hx hb dX5_dangerOf_53 rfl (lv_at hl 1 rfl) ?_
        refine lv_iconst (v := 4) hx hb dX5_dangerOf_54 (by decide) ?_
        refine lv_idiv hx hb dX5_dangerOf_55 (by decide) ?_
        refine lv_iadd hx hb dX5_dangerOf_56 ?_
        exact W.iret (v := ((dgM (rwM f0 pl) 4).1) + (((dgM (rwM f0 pl) 4).2) / 4)) hx hb hr (fun t ht hW => ⟨⟨_, (), rfl, (by first | rfl), trivial⟩, hS.F ht⟩) hS.2.2 dX5_dangerOf_57
      · refine lv_aload_n hx hb dX5_dangerOf_13 rfl (lv_at hl 3 rfl) ?_
        refine lv_iload_n hx hb dX5_dangerOf_14 rfl (lv_at hl 4 rfl) ?_
        refine lv_iload hx hb dX5_dangerOf_15 (lv_at hl 0 rfl) ?_
        refine va_calli (va_runS (As := [.ref g0, .int (nI pl), .int (nI ii)]) (rest := []) ⟨hx, hb, hml, hown, hts⟩ (kX5_problemOf l E g0 nn f0 pl ii (by first | omega | assumption | (intro k h; have := hz k h; omega)) (by first | omega | assumption | (intro k h; have := hz k h; omega)) (by first | omega | assumption | (intro k h; have := hz k h; omega))) (va_cwS 3 hts gX5_dangerOf_X5_problemOf rfl rfl rfl (by decide +kernel) ⟨Nat.le_of_ble_eq_true rfl, Nat.le_of_ble_eq_true rfl⟩) ⟨fb_R, fun U hU hW => ⟨rfl, (by rw [hU]; exact hP), hE.warm hW⟩⟩ rfl rfl hl.1 rfl (lv_room (Nat.le_of_ble_eq_true rfl)) dX5_dangerOf_17 ⟨by first | exact Nat.le_of_ble_eq_true rfl | (show _ ≤ 0; omega), by first | exact Nat.le_of_ble_eq_true rfl | (show _ ≤ 0; omega)⟩) hS (fun q _ h => h.elim) (fun q h => h.elim) (fun r17_0 u t H1 locs ht hvm hw hB hz1 hk1 hS => ?_)
        have hP := hP.ro hk1
        generalize H1 = H at hP hS ⊢
        subst hw
        refine lv_istore (lv' := [(5, .int (prR (rwM f0 pl) ii)), (4, .int (nI ii)), (3, .int ((dgM (rwM f0 pl) ii).2)), (2, .int ((dgM (rwM f0 pl) ii).1)), (0, .ref g0), (1, .int (nI pl))]) hx hb dX5_dangerOf_20 hl (by decide) rfl (fun ls hl => ?_)
        have KJ38 : ∀ (xx : Int32), xx = ((dgM (rwM f0 pl) (ii + 1)).2) → ∀ (H : Heap) (locs : List Loc) (ls : Array Slot), va_P E.1 vwCl [(g0, .inl (E.2.1 0, nn, .inl f0))] H → va_S (fun _ : Nat => False) s.heap H locs → lv_has ls 6 [(5, .int (prR (rwM f0 pl) ii)), (4, .int (nI ii)), (3, .int ((dgM (rwM f0 pl) ii).2)), (2, .int ((dgM (rwM f0 pl) ii).1)), (0, .ref g0), (1, .int (nI pl))] → W p l e (headSpec wsX5_dangerOf ({ frames := 2, cells := 0, slots := 0, locals := 36 } : Room)).room s m [.ref g0, .int (nI pl)].toArray below meth c H locs 0 0 (MQ below (va_Qi (fun (r : Int32) (_ : Unit) => r = dngM (rwM f0 pl)) (fun _ _ => True) (fun _ : Nat => False)) [.ref g0, .int (nI pl)].toArray s 0 0 (fun _ : Nat => False)) (F0 m 38 ls [.int xx]) := by
          intro xx exx H locs ls hP hS hl
          subst exx
          refine lv_istore_n (lv' := [(3, .int ((dgM (rwM f0 pl) (ii + 1)).2)), (5, .int (prR (rwM f0 pl) ii)), (4, .int (nI ii)), (2, .int ((dgM (rwM f0 pl) ii).1)), (0, .ref g0), (1, .int (nI pl))]) hx hb dX5_dangerOf_38 rfl hl (by decide) rfl (fun ls hl => ?_)
          refine lv_iload_n hx hb dX5_dangerOf_39 rfl (lv_at hl 3 rfl) ?_
          refine lv_iload hx hb dX5_dangerOf_40 (lv_at hl 1 rfl) ?_
          refine mz_max hx hb (hml.trans hl.1.symm) hown ml_105 ms_max mi mc_max (Nat.le_of_ble_eq_true rfl) (Nat.le_of_ble_eq_true rfl) (by first | exact Nat.le_of_ble_eq_true rfl | (show _ ≤ 0; omega)) (by first | exact Nat.le_of_ble_eq_true rfl | (show _ ≤ 0; omega)) dX5_dangerOf_42 ?_
          refine lv_istore_n (lv' := [(2, .int (mx ((dgM (rwM f0 pl) ii).1) (prR (rwM f0 pl) ii))), (3, .int ((dgM (rwM f0 pl) (ii + 1)).2)), (5, .int (prR (rwM f0 pl) ii)), (4, .int (nI ii)), (0, .ref g0), (1, .int (nI pl))]) hx hb dX5_dangerOf_45 rfl hl (by decide) rfl (fun ls hl => ?_)
          refine mz_iinc (k := 3) (lv' := [(4, .int (nI (ii + 1))), (2, .int (mx ((dgM (rwM f0 pl) ii).1) (prR (rwM f0 pl) ii))), (3, .int ((dgM (rwM f0 pl) (ii + 1)).2)), (5, .int (prR (rwM f0 pl) ii)), (0, .ref g0), (1, .int (nI pl))]) hx hb ii 1 dX5_dangerOf_46 hl rfl (by decide) rfl (fun ls hl => ?_)
          refine lv_goto (tgt := 7) hx hb dX5_dangerOf_49 (by decide) ?_
          exact ih7 (ii + 1) (by omega) (by omega) _ _ _ hP hS (lv_sub hl [0, 2, 1, 4, 5] rfl)
        refine lv_iload hx hb dX5_dangerOf_22 (lv_at hl 0 rfl) ?_
        refine lv_iload_n hx hb dX5_dangerOf_24 rfl (lv_at hl 3 rfl) ?_
        refine mz_lt (tgt := 32) hx hb dX5_dangerOf_25 (by decide) (fun c_25 => ?_) (fun c_25 => ?_)
        · refine lv_iload_n hx hb dX5_dangerOf_32 rfl (lv_at hl 2 rfl) ?_
          refine lv_iload hx hb dX5_dangerOf_33 (lv_at hl 0 rfl) ?_
          refine mz_max hx hb (hml.trans hl.1.symm) hown ml_105 ms_max mi mc_max (Nat.le_of_ble_eq_true rfl) (Nat.le_of_ble_eq_true rfl) (by first | exact Nat.le_of_ble_eq_true rfl | (show _ ≤ 0; omega)) (by first | exact Nat.le_of_ble_eq_true rfl | (show _ ≤ 0; omega)) dX5_dangerOf_35 ?_
          exact KJ38 (mx ((dgM (rwM f0 pl) ii).2) (prR (rwM f0 pl) ii)) (by first | (simp only [dgM, if_pos c_10, if_pos c_25]; done) | (try unfold dgM; simp only [if_pos c_10, if_pos c_25]; done) | (try unfold dgM; rfl) | rfl) _ _ _ hP hS (lv_sub hl [0, 1, 2, 3, 4, 5] rfl)
        · refine lv_iload_n hx hb dX5_dangerOf_28 rfl (lv_at hl 3 rfl) ?_
          refine lv_goto (tgt := 38) hx hb dX5_dangerOf_29 (by decide) ?_
          exact KJ38 ((dgM (rwM f0 pl) ii).1) (by first | (simp only [dgM, if_pos c_10, if_neg c_25]; done) | (try unfold dgM; simp only [if_pos c_10, if_neg c_25]; done) | (try unfold dgM; rfl) | rfl) _ _ _ hP hS (lv_sub hl [0, 1, 2, 3, 4, 5] rfl)
  exact KL7 (4 + 1 - 0) 0 (by omega) (by omega) _ _ _ hP hS (lv_sub hl [0, 1, 2, 3, 4] rfl)
set_option maxHeartbeats 4000000 in
set_option maxRecDepth 100000 in
theorem kX5_levelOf (l : Launch) (E : ev_T) (g0 : Nat) (nn : Nat) (f0 : Nat → Int32) (fr : Nat) (hp : fr + 60 ≤ nn) (hn : nn < 2147483648) : Met l yX5_levelOf wsX5_levelOf ({ frames := 3, cells := 0, slots := 0, locals := 61 } : Room) (va_Pc [.ref g0, .int (nI fr)] (pr_R E [(g0, .inl (E.2.1 0, nn, .inl f0))])) (va_Qi (fun (r : Int32) (_ : Unit) => r = lvM f0 fr) (fun _ _ => True) (fun _ : Nat => False)) 0 0 (fun _ : Nat => False) := by
  refine Met.ofW (cc := cX5_levelOf) (maxL := 5) (ret := (some .int)) (by decide) rfl ?_
  intro p e s m args below meth c s₁ B hml hv
  obtain ⟨rfl, hP, hE⟩ := hv
  have hx := B.exec
  have hb := B.bytes
  have hr := B.returns
  have hts := atoms_spec (ws := wsX5_levelOf) B.pre
  have hown : s.vm.findClass RX5 = some m.cls := findClass_of_methodNamed B.named
  have hlocks := B.notSynchronized
  refine mz_start (fun H locs hH hL => ?_)
  have hS : va_S (fun _ : Nat => False) s.heap H locs := by rw [hH, hL]; exact va_S.rf
  have hl := lv_entry ([.ref g0, .int (nI fr)]) (n := 5) (Nat.le_of_ble_eq_true rfl)
  rw [lg_entry_eq]
  generalize (lg_sl ([.ref g0, .int (nI fr)]) ++ List.replicate (5 - (lg_sl ([.ref g0, .int (nI fr)])).length) Slot.unset).toArray = ls at hl ⊢
  have hl : lv_has ls 5 [(0, .ref g0), (1, .int (nI fr))] := hl
  have hP : va_P E.1 vwCl [(g0, .inl (E.2.1 0, nn, .inl f0))] H := by rw [hH]; exact hP
  refine lv_iconst (v := 5) hx hb dX5_levelOf_0 (by decide) ?_
  refine lv_istore_n (lv' := [(2, .int 5), (0, .ref g0), (1, .int (nI fr))]) hx hb dX5_levelOf_1 rfl hl (by decide) rfl (fun ls hl => ?_)
  refine lv_iconst (v := 0) hx hb dX5_levelOf_2 (by decide) ?_
  refine lv_istore_n (lv' := [(3, .int 0), (2, .int 5), (0, .ref g0), (1, .int (nI fr))]) hx hb dX5_levelOf_3 rfl hl (by decide) rfl (fun ls hl => ?_)
  refine lv_iload_n hx hb dX5_levelOf_4 rfl (lv_at hl 0 rfl) ?_
  refine lv_iconst (v := 2) hx hb dX5_levelOf_5 (by decide) ?_
  refine mz_geN hx hb 0 2 (tgt := 68) dX5_levelOf_6 (by decide) (by omega) (by omega) (fun c_6 => ?_) (fun c_6 => ?_)
  · exact absurd c_6 (by decide)
  · refine lv_iconst (v := 0) hx hb dX5_levelOf_9 (by decide) ?_
    refine lv_istore_n (lv' := [(3, .int 0), (2, .int 5), (0, .ref g0), (1, .int (nI fr))]) hx hb dX5_levelOf_10 rfl hl (by decide) rfl (fun ls hl => ?_)
    refine lv_iconst (v := 0) hx hb dX5_levelOf_11 (by decide) ?_
    refine lv_istore (lv' := [(4, .int 0), (3, .int 0), (2, .int 5), (0, .ref g0), (1, .int (nI fr))]) hx hb dX5_levelOf_12 hl (by decide) rfl (fun ls hl => ?_)
    have KL14 : ∀ (n14 ii : Nat), ii ≤ 12 → 12 < n14 + ii → ∀ (H : Heap) (locs : List Loc) (ls : Array Slot), va_P E.1 vwCl [(g0, .inl (E.2.1 0, nn, .inl f0))] H → va_S (fun _ : Nat => False) s.heap H locs → lv_has ls 5 [(4, .int (nI ii)), (3, .int (mcM f0 fr 5 ii)), (2, .int 5), (0, .ref g0), (1, .int (nI fr))] → W p l e (headSpec wsX5_levelOf ({ frames := 3, cells := 0, slots := 0, locals := 61 } : Room)).room s m [.ref g0, .int (nI fr)].toArray below meth c H locs 0 0 (MQ below (va_Qi (fun (r : Int32) (_ : Unit) => r = lvM f0 fr) (fun _ _ => True) (fun _ : Nat => False)) [.ref g0, .int (nI fr)].toArray s 0 0 (fun _ : Nat => False)) (F0 m 14 ls []) := by
      intro n14
      induction n14 with
      | zero => intro ii h1 h2; exact absurd h2 (by omega)
      | succ n14 ih14 =>
        intro ii hi14 hn14 H locs ls hP hS hl
        refine lv_iload hx hb dX5_levelOf_14 (lv_at hl 0 rfl) ?_
        refine lv_bipush (v := 12) hx hb dX5_levelOf_16 (by decide) ?_
        refine mz_geN hx hb ii 12 (tgt := 52) dX5_levelOf_18 (by decide) (by omega) (by omega) (fun c_18 => ?_) (fun c_18 => ?_)
        · have hq99 : ii = 12 := by omega
          subst ii
          refine lv_iload_n hx hb dX5_levelOf_52 rfl (lv_at hl 2 rfl) ?_
          refine lv_iload_n hx hb dX5_levelOf_53 rfl (lv_at hl 1 rfl) ?_
          refine lv_iconst (v := 2) hx hb dX5_levelOf_54 (by decide) ?_
          refine mz_ge (tgt := 62) hx hb dX5_levelOf_55 (by decide) (fun c_55 => ?_) (fun c_55 => ?_)
          · refine lv_iconst (v := 0) hx hb dX5_levelOf_62 (by decide) ?_
            refine lv_isub hx hb dX5_levelOf_63 ?_
            refine mz_fold (y := 5) (by decide) ?_
            refine lv_istore_n (lv' := [(2, .int 5), (4, .int (nI 12)), (3, .int (mcM f0 fr 5 12)), (0, .ref g0), (1, .int (nI fr))]) hx hb dX5_levelOf_64 rfl hl (by decide) rfl (fun ls hl => ?_)
            refine lv_goto (tgt := 4) hx hb dX5_levelOf_65 (by decide) ?_
            refine lv_iload_n hx hb dX5_levelOf_4 rfl (lv_at hl 2 rfl) ?_
            refine lv_iconst (v := 2) hx hb dX5_levelOf_5 (by decide) ?_
            refine mz_ge (tgt := 68) hx hb dX5_levelOf_6 (by decide) (fun c_6_2 => ?_) (fun c_6_2 => ?_)
            · refine lv_iload_n hx hb dX5_levelOf_68 rfl (lv_at hl 0 rfl) ?_
              exact W.iret (v := 5) hx hb hr (fun t ht hW => ⟨⟨_, (), rfl, (by first | (simp only [lvM, if_pos c_6, if_neg c_55, if_neg c_6_2]; done) | (try unfold lvM; simp only [if_pos c_6, if_neg c_55, if_neg c_6_2]; done) | (try unfold lvM; rfl) | rfl), trivial⟩, hS.F ht⟩) hS.2.2 dX5_levelOf_69
            · exact absurd c_6_2 c_55
          · refine lv_iconst (v := 1) hx hb dX5_levelOf_58 (by decide) ?_
            refine lv_goto (tgt := 63) hx hb dX5_levelOf_59 (by decide) ?_
            refine lv_isub hx hb dX5_levelOf_63 ?_
            refine mz_fold (y := 4) (by decide) ?_
            refine lv_istore_n (lv' := [(2, .int 4), (4, .int (nI 12)), (3, .int (mcM f0 fr 5 12)), (0, .ref g0), (1, .int (nI fr))]) hx hb dX5_levelOf_64 rfl hl (by decide) rfl (fun ls hl => ?_)
            refine lv_goto (tgt := 4) hx hb dX5_levelOf_65 (by decide) ?_
            refine lv_iload_n hx hb dX5_levelOf_4 rfl (lv_at hl 2 rfl) ?_
            refine lv_iconst (v := 2) hx hb dX5_levelOf_5 (by decide) ?_
            refine mz_ge (tgt := 68) hx hb dX5_levelOf_6 (by decide) (fun c_6_2 => ?_) (fun c_6_2 => ?_)
            · exact absurd c_55 c_6_2
            · refine lv_iconst (v := 0) hx hb dX5_levelOf_9 (by decide) ?_
              refine lv_istore_n (lv' := [(3, .int 0), (2, .int 4), (4, .int (nI 12)), (0, .ref g0), (1, .int (nI fr))]) hx hb dX5_levelOf_10 rfl hl (by decide) rfl (fun ls hl => ?_)
              refine lv_iconst (v := 0) hx hb dX5_levelOf_11 (by decide) ?_
              refine lv_istore (lv' := [(4, .int 0), (3, .int 0), (2, .int 4), (0, .ref g0), (1, .int (nI fr))]) hx hb dX5_levelOf_12 hl (by decide) rfl (fun ls hl => ?_)
              have KL14 : ∀ (n14 ii : Nat), ii ≤ 12 → 12 < n14 + ii → ∀ (H : Heap) (locs : List Loc) (ls : Array Slot), va_P E.1 vwCl [(g0, .inl (E.2.1 0, nn, .inl f0))] H → va_S (fun _ : Nat => False) s.heap H locs → lv_has ls 5 [(4, .int (nI ii)), (3, .int (mcM f0 fr 4 ii)), (2, .int 4), (0, .ref g0), (1, .int (nI fr))] → W p l e (headSpec wsX5_levelOf ({ frames := 3, cells := 0, slots := 0, locals := 61 } : Room)).room s m [.ref g0, .int (nI fr)].toArray below meth c H locs 0 0 (MQ below (va_Qi (fun (r : Int32) (_ : Unit) => r = lvM f0 fr) (fun _ _ => True) (fun _ : Nat => False)) [.ref g0, .int (nI fr)].toArray s 0 0 (fun _ : Nat => False)) (F0 m 14 ls []) := by
                intro n14
                induction n14 with
                | zero => intro ii h1 h2; exact absurd h2 (by omega)
                | succ n14 ih14 =>
                  intro ii hi14 hn14 H locs ls hP hS hl
                  refine lv_iload hx hb dX5_levelOf_14 (lv_at hl 0 rfl) ?_
                  refine lv_bipush (v := 12) hx hb dX5_levelOf_16 (by decide) ?_
                  refine mz_geN hx hb ii 12 (tgt := 52) dX5_levelOf_18 (by decide) (by omega) (by omega) (fun c_18 => ?_) (fun c_18 => ?_)
                  · have hq99 : ii = 12 := by omega
                    subst ii
                    refine lv_iload_n hx hb dX5_levelOf_52 rfl (lv_at hl 2 rfl) ?_
                    refine lv_iload_n hx hb dX5_levelOf_53 rfl (lv_at hl 1 rfl) ?_
                    refine lv_iconst (v := 2) hx hb dX5_levelOf_54 (by decide) ?_
                    refine mz_ge (tgt := 62) hx hb dX5_levelOf_55 (by decide) (fun c_55_2 => ?_) (fun c_55_2 => ?_)
                    · refine lv_iconst (v := 0) hx hb dX5_levelOf_62 (by decide) ?_
                      refine lv_isub hx hb dX5_levelOf_63 ?_
                      refine mz_fold (y := 4) (by decide) ?_
                      refine lv_istore_n (lv' := [(2, .int 4), (4, .int (nI 12)), (3, .int (mcM f0 fr 4 12)), (0, .ref g0), (1, .int (nI fr))]) hx hb dX5_levelOf_64 rfl hl (by decide) rfl (fun ls hl => ?_)
                      refine lv_goto (tgt := 4) hx hb dX5_levelOf_65 (by decide) ?_
                      refine lv_iload_n hx hb dX5_levelOf_4 rfl (lv_at hl 2 rfl) ?_
                      refine lv_iconst (v := 2) hx hb dX5_levelOf_5 (by decide) ?_
                      refine mz_ge (tgt := 68) hx hb dX5_levelOf_6 (by decide) (fun c_6_3 => ?_) (fun c_6_3 => ?_)
                      · refine lv_iload_n hx hb dX5_levelOf_68 rfl (lv_at hl 0 rfl) ?_
                        exact W.iret (v := 4) hx hb hr (fun t ht hW => ⟨⟨_, (), rfl, (by first | (simp only [lvM, if_pos c_6, if_pos c_55, if_pos c_6_2, if_neg c_55_2, if_neg c_6_3]; done) | (try unfold lvM; simp only [if_pos c_6, if_pos c_55, if_pos c_6_2, if_neg c_55_2, if_neg c_6_3]; done) | (try unfold lvM; rfl) | rfl), trivial⟩, hS.F ht⟩) hS.2.2 dX5_levelOf_69
                      · exact absurd c_6_3 c_55_2
                    · refine lv_iconst (v := 1) hx hb dX5_levelOf_58 (by decide) ?_
                      refine lv_goto (tgt := 63) hx hb dX5_levelOf_59 (by decide) ?_
                      refine lv_isub hx hb dX5_levelOf_63 ?_
                      refine mz_fold (y := 3) (by decide) ?_
                      refine lv_istore_n (lv' := [(2, .int 3), (4, .int (nI 12)), (3, .int (mcM f0 fr 4 12)), (0, .ref g0), (1, .int (nI fr))]) hx hb dX5_levelOf_64 rfl hl (by decide) rfl (fun ls hl => ?_)
                      refine lv_goto (tgt := 4) hx hb dX5_levelOf_65 (by decide) ?_
                      refine lv_iload_n hx hb dX5_levelOf_4 rfl (lv_at hl 2 rfl) ?_
                      refine lv_iconst (v := 2) hx hb dX5_levelOf_5 (by decide) ?_
                      refine mz_ge (tgt := 68) hx hb dX5_levelOf_6 (by decide) (fun c_6_3 => ?_) (fun c_6_3 => ?_)
                      · exact absurd c_55_2 c_6_3
                      · refine lv_iconst (v := 0) hx hb dX5_levelOf_9 (by decide) ?_
                        refine lv_istore_n (lv' := [(3, .int 0), (2, .int 3), (4, .int (nI 12)), (0, .ref g0), (1, .int (nI fr))]) hx hb dX5_levelOf_10 rfl hl (by decide) rfl (fun ls hl => ?_)
                        refine lv_iconst (v := 0) hx hb dX5_levelOf_11 (by decide) ?_
                        refine lv_istore (lv' := [(4, .int 0), (3, .int 0), (2, .int 3), (0, .ref g0), (1, .int (nI fr))]) hx hb dX5_levelOf_12 hl (by decide) rfl (fun ls hl => ?_)
                        have KL14 : ∀ (n14 ii : Nat), ii ≤ 12 → 12 < n14 + ii → ∀ (H : Heap) (locs : List Loc) (ls : Array Slot), va_P E.1 vwCl [(g0, .inl (E.2.1 0, nn, .inl f0))] H → va_S (fun _ : Nat => False) s.heap H locs → lv_has ls 5 [(4, .int (nI ii)), (3, .int (mcM f0 fr 3 ii)), (2, .int 3), (0, .ref g0), (1, .int (nI fr))] → W p l e (headSpec wsX5_levelOf ({ frames := 3, cells := 0, slots := 0, locals := 61 } : Room)).room s m [.ref g0, .int (nI fr)].toArray below meth c H locs 0 0 (MQ below (va_Qi (fun (r : Int32) (_ : Unit) => r = lvM f0 fr) (fun _ _ => True) (fun _ : Nat => False)) [.ref g0, .int (nI fr)].toArray s 0 0 (fun _ : Nat => False)) (F0 m 14 ls []) := by
                          intro n14
                          induction n14 with
                          | zero => intro ii h1 h2; exact absurd h2 (by omega)
                          | succ n14 ih14 =>
                            intro ii hi14 hn14 H locs ls hP hS hl
                            refine lv_iload hx hb dX5_levelOf_14 (lv_at hl 0 rfl) ?_
                            refine lv_bipush (v := 12) hx hb dX5_levelOf_16 (by decide) ?_
                            refine mz_geN hx hb ii 12 (tgt := 52) dX5_levelOf_18 (by decide) (by omega) (by omega) (fun c_18 => ?_) (fun c_18 => ?_)
                            · have hq99 : ii = 12 := by omega
                              subst ii
                              refine lv_iload_n hx hb dX5_levelOf_52 rfl (lv_at hl 2 rfl) ?_
                              refine lv_iload_n hx hb dX5_levelOf_53 rfl (lv_at hl 1 rfl) ?_
                              refine lv_iconst (v := 2) hx hb dX5_levelOf_54 (by decide) ?_
                              refine mz_ge (tgt := 62) hx hb dX5_levelOf_55 (by decide) (fun c_55_3 => ?_) (fun c_55_3 => ?_)
                              · refine lv_iconst (v := 0) hx hb dX5_levelOf_62 (by decide) ?_
                                refine lv_isub hx hb dX5_levelOf_63 ?_
                                refine mz_fold (y := 3) (by decide) ?_
                                refine lv_istore_n (lv' := [(2, .int 3), (4, .int (nI 12)), (3, .int (mcM f0 fr 3 12)), (0, .ref g0), (1, .int (nI fr))]) hx hb dX5_levelOf_64 rfl hl (by decide) rfl (fun ls hl => ?_)
                                refine lv_goto (tgt := 4) hx hb dX5_levelOf_65 (by decide) ?_
                                refine lv_iload_n hx hb dX5_levelOf_4 rfl (lv_at hl 2 rfl) ?_
                                refine lv_iconst (v := 2) hx hb dX5_levelOf_5 (by decide) ?_
                                refine mz_ge (tgt := 68) hx hb dX5_levelOf_6 (by decide) (fun c_6_4 => ?_) (fun c_6_4 => ?_)
                                · refine lv_iload_n hx hb dX5_levelOf_68 rfl (lv_at hl 0 rfl) ?_
                                  exact W.iret (v := 3) hx hb hr (fun t ht hW => ⟨⟨_, (), rfl, (by first | (simp only [lvM, if_pos c_6, if_pos c_55, if_pos c_6_2, if_pos c_55_2, if_pos c_6_3, if_neg c_55_3, if_neg c_6_4]; done) | (try unfold lvM; simp only [if_pos c_6, if_pos c_55, if_pos c_6_2, if_pos c_55_2, if_pos c_6_3, if_neg c_55_3, if_neg c_6_4]; done) | (try unfold lvM; rfl) | rfl), trivial⟩, hS.F ht⟩) hS.2.2 dX5_levelOf_69
                                · exact absurd c_6_4 c_55_3
                              · refine lv_iconst (v := 1) hx hb dX5_levelOf_58 (by decide) ?_
                                refine lv_goto (tgt := 63) hx hb dX5_levelOf_59 (by decide) ?_
                                refine lv_isub hx hb dX5_levelOf_63 ?_
                                refine mz_fold (y := 2) (by decide) ?_
                                refine lv_istore_n (lv' := [(2, .int 2), (4, .int (nI 12)), (3, .int (mcM f0 fr 3 12)), (0, .ref g0), (1, .int (nI fr))]) hx hb dX5_levelOf_64 rfl hl (by decide) rfl (fun ls hl => ?_)
                                refine lv_goto (tgt := 4) hx hb dX5_levelOf_65 (by decide) ?_
                                refine lv_iload_n hx hb dX5_levelOf_4 rfl (lv_at hl 2 rfl) ?_
                                refine lv_iconst (v := 2) hx hb dX5_levelOf_5 (by decide) ?_
                                refine mz_ge (tgt := 68) hx hb dX5_levelOf_6 (by decide) (fun c_6_4 => ?_) (fun c_6_4 => ?_)
                                · exact absurd c_55_3 c_6_4
                                · refine lv_iconst (v := 0) hx hb dX5_levelOf_9 (by decide) ?_
                                  refine lv_istore_n (lv' := [(3, .int 0), (2, .int 2), (4, .int (nI 12)), (0, .ref g0), (1, .int (nI fr))]) hx hb dX5_levelOf_10 rfl hl (by decide) rfl (fun ls hl => ?_)
                                  refine lv_iconst (v := 0) hx hb dX5_levelOf_11 (by decide) ?_
                                  refine lv_istore (lv' := [(4, .int 0), (3, .int 0), (2, .int 2), (0, .ref g0), (1, .int (nI fr))]) hx hb dX5_levelOf_12 hl (by decide) rfl (fun ls hl => ?_)
                                  have KL14 : ∀ (n14 ii : Nat), ii ≤ 12 → 12 < n14 + ii → ∀ (H : Heap) (locs : List Loc) (ls : Array Slot), va_P E.1 vwCl [(g0, .inl (E.2.1 0, nn, .inl f0))] H → va_S (fun _ : Nat => False) s.heap H locs → lv_has ls 5 [(4, .int (nI ii)), (3, .int (mcM f0 fr 2 ii)), (2, .int 2), (0, .ref g0), (1, .int (nI fr))] → W p l e (headSpec wsX5_levelOf ({ frames := 3, cells := 0, slots := 0, locals := 61 } : Room)).room s m [.ref g0, .int (nI fr)].toArray below meth c H locs 0 0 (MQ below (va_Qi (fun (r : Int32) (_ : Unit) => r = lvM f0 fr) (fun _ _ => True) (fun _ : Nat => False)) [.ref g0, .int (nI fr)].toArray s 0 0 (fun _ : Nat => False)) (F0 m 14 ls []) := by
                                    intro n14
                                    induction n14 with
                                    | zero => intro ii h1 h2; exact absurd h2 (by omega)
                                    | succ n14 ih14 =>
                                      intro ii hi14 hn14 H locs ls hP hS hl
                                      refine lv_iload hx hb dX5_levelOf_14 (lv_at hl 0 rfl) ?_
                                      refine lv_bipush (v := 12) hx hb dX5_levelOf_16 (by decide) ?_
                                      refine mz_geN hx hb ii 12 (tgt := 52) dX5_levelOf_18 (by decide) (by omega) (by omega) (fun c_18 => ?_) (fun c_18 => ?_)
                                      · have hq99 : ii = 12 := by omega
                                        subst ii
                                        refine lv_iload_n hx hb dX5_levelOf_52 rfl (lv_at hl 2 rfl) ?_
                                        refine lv_iload_n hx hb dX5_levelOf_53 rfl (lv_at hl 1 rfl) ?_
                                        refine lv_iconst (v := 2) hx hb dX5_levelOf_54 (by decide) ?_
                                        refine mz_ge (tgt := 62) hx hb dX5_levelOf_55 (by decide) (fun c_55_4 => ?_) (fun c_55_4 => ?_)
                                        · refine lv_iconst (v := 0) hx hb dX5_levelOf_62 (by decide) ?_
                                          refine lv_isub hx hb dX5_levelOf_63 ?_
                                          refine mz_fold (y := 2) (by decide) ?_
                                          refine lv_istore_n (lv' := [(2, .int 2), (4, .int (nI 12)), (3, .int (mcM f0 fr 2 12)), (0, .ref g0), (1, .int (nI fr))]) hx hb dX5_levelOf_64 rfl hl (by decide) rfl (fun ls hl => ?_)
                                          refine lv_goto (tgt := 4) hx hb dX5_levelOf_65 (by decide) ?_
                                          refine lv_iload_n hx hb dX5_levelOf_4 rfl (lv_at hl 2 rfl) ?_
                                          refine lv_iconst (v := 2) hx hb dX5_levelOf_5 (by decide) ?_
                                          refine mz_ge (tgt := 68) hx hb dX5_levelOf_6 (by decide) (fun c_6_5 => ?_) (fun c_6_5 => ?_)
                                          · refine lv_iload_n hx hb dX5_levelOf_68 rfl (lv_at hl 0 rfl) ?_
                                            exact W.iret (v := 2) hx hb hr (fun t ht hW => ⟨⟨_, (), rfl, (by first | (simp only [lvM, if_pos c_6, if_pos c_55, if_pos c_6_2, if_pos c_55_2, if_pos c_6_3, if_pos c_55_3, if_pos c_6_4, if_neg c_55_4, if_neg c_6_5]; done) | (try unfold lvM; simp only [if_pos c_6, if_pos c_55, if_pos c_6_2, if_pos c_55_2, if_pos c_6_3, if_pos c_55_3, if_pos c_6_4, if_neg c_55_4, if_neg c_6_5]; done) | (try unfold lvM; rfl) | rfl), trivial⟩, hS.F ht⟩) hS.2.2 dX5_levelOf_69
                                          · exact absurd c_6_5 c_55_4
                                        · refine lv_iconst (v := 1) hx hb dX5_levelOf_58 (by decide) ?_
                                          refine lv_goto (tgt := 63) hx hb dX5_levelOf_59 (by decide) ?_
                                          refine lv_isub hx hb dX5_levelOf_63 ?_
                                          refine mz_fold (y := 1) (by decide) ?_
                                          refine lv_istore_n (lv' := [(2, .int 1), (4, .int (nI 12)), (3, .int (mcM f0 fr 2 12)), (0, .ref g0), (1, .int (nI fr))]) hx hb dX5_levelOf_64 rfl hl (by decide) rfl (fun ls hl => ?_)
                                          refine lv_goto (tgt := 4) hx hb dX5_levelOf_65 (by decide) ?_
                                          refine lv_iload_n hx hb dX5_levelOf_4 rfl (lv_at hl 2 rfl) ?_
                                          refine lv_iconst (v := 2) hx hb dX5_levelOf_5 (by decide) ?_
                                          refine mz_ge (tgt := 68) hx hb dX5_levelOf_6 (by decide) (fun c_6_5 => ?_) (fun c_6_5 => ?_)
                                          · exact absurd c_55_4 c_6_5
                                          · refine lv_iconst (v := 0) hx hb dX5_levelOf_9 (by decide) ?_
                                            refine lv_istore_n (lv' := [(3, .int 0), (2, .int 1), (4, .int (nI 12)), (0, .ref g0), (1, .int (nI fr))]) hx hb dX5_levelOf_10 rfl hl (by decide) rfl (fun ls hl => ?_)
                                            refine lv_iconst (v := 0) hx hb dX5_levelOf_11 (by decide) ?_
                                            refine lv_istore (lv' := [(4, .int 0), (3, .int 0), (2, .int 1), (0, .ref g0), (1, .int (nI fr))]) hx hb dX5_levelOf_12 hl (by decide) rfl (fun ls hl => ?_)
                                            have KL14 : ∀ (n14 ii : Nat), ii ≤ 12 → 12 < n14 + ii → ∀ (H : Heap) (locs : List Loc) (ls : Array Slot), va_P E.1 vwCl [(g0, .inl (E.2.1 0, nn, .inl f0))] H → va_S (fun _ : Nat => False) s.heap H locs → lv_has ls 5 [(4, .int (nI ii)), (3, .int (mcM f0 fr 1 ii)), (2, .int 1), (0, .ref g0), (1, .int (nI fr))] → W p l e (headSpec wsX5_levelOf ({ frames := 3, cells := 0, slots := 0, locals := 61 } : Room)).room s m [.ref g0, .int (nI fr)].toArray below meth c H locs 0 0 (MQ below (va_Qi (fun (r : Int32) (_ : Unit) => r = lvM f0 fr) (fun _ _ => True) (fun _ : Nat => False)) [.ref g0, .int (nI fr)].toArray s 0 0 (fun _ : Nat => False)) (F0 m 14 ls []) := by
                                              intro n14
                                              induction n14 with
                                              | zero => intro ii h1 h2; exact absurd h2 (by omega)
                                              | succ n14 ih14 =>
                                                intro ii hi14 hn14 H locs ls hP hS hl
                                                refine lv_iload hx hb dX5_levelOf_14 (lv_at hl 0 rfl) ?_
                                                refine lv_bipush (v := 12) hx hb dX5_levelOf_16 (by decide) ?_
                                                refine mz_geN hx hb ii 12 (tgt := 52) dX5_levelOf_18 (by decide) (by omega) (by omega) (fun c_18 => ?_) (fun c_18 => ?_)
                                                · have hq99 : ii = 12 := by omega
                                                  subst ii
                                                  refine lv_iload_n hx hb dX5_levelOf_52 rfl (lv_at hl 2 rfl) ?_
                                                  refine lv_iload_n hx hb dX5_levelOf_53 rfl (lv_at hl 1 rfl) ?_
                                                  refine lv_iconst (v := 2) hx hb dX5_levelOf_54 (by decide) ?_
                                                  refine mz_ge (tgt := 62) hx hb dX5_levelOf_55 (by decide) (fun c_55_5 => ?_) (fun c_55_5 => ?_)
                                                  · refine lv_iconst (v := 0) hx hb dX5_levelOf_62 (by decide) ?_
                                                    refine lv_isub hx hb dX5_levelOf_63 ?_
                                                    refine mz_fold (y := 1) (by decide) ?_
                                                    refine lv_istore_n (lv' := [(2, .int 1), (4, .int (nI 12)), (3, .int (mcM f0 fr 1 12)), (0, .ref g0), (1, .int (nI fr))]) hx hb dX5_levelOf_64 rfl hl (by decide) rfl (fun ls hl => ?_)
                                                    refine lv_goto (tgt := 4) hx hb dX5_levelOf_65 (by decide) ?_
                                                    refine lv_iload_n hx hb dX5_levelOf_4 rfl (lv_at hl 2 rfl) ?_
                                                    refine lv_iconst (v := 2) hx hb dX5_levelOf_5 (by decide) ?_
                                                    refine mz_ge (tgt := 68) hx hb dX5_levelOf_6 (by decide) (fun c_6_6 => ?_) (fun c_6_6 => ?_)
                                                    · refine lv_iload_n hx hb dX5_levelOf_68 rfl (lv_at hl 0 rfl) ?_
                                                      exact W.iret (v := 1) hx hb hr (fun t ht hW => ⟨⟨_, (), rfl, (by first | (simp only [lvM, if_pos c_6, if_pos c_55, if_pos c_6_2, if_pos c_55_2, if_pos c_6_3, if_pos c_55_3, if_pos c_6_4, if_pos c_55_4, if_pos c_6_5, if_neg c_55_5, if_neg c_6_6]; done) | (try unfold lvM; simp only [if_pos c_6, if_pos c_55, if_pos c_6_2, if_pos c_55_2, if_pos c_6_3, if_pos c_55_3, if_pos c_6_4, if_pos c_55_4, if_pos c_6_5, if_neg c_55_5, if_neg c_6_6]; done) | (try unfold lvM; rfl) | rfl), trivial⟩, hS.F ht⟩) hS.2.2 dX5_levelOf_69
                                                    · exact absurd c_6_6 c_55_5
                                                  · exact absurd c_55_5 (by rw [mcM_1]; decide)
                                                · refine lv_iload_n hx hb dX5_levelOf_21 rfl (lv_at hl 1 rfl) ?_
                                                  refine lv_aload_n hx hb dX5_levelOf_22 rfl (lv_at hl 3 rfl) ?_
                                                  refine lv_iload_n hx hb dX5_levelOf_23 rfl (lv_at hl 4 rfl) ?_
                                                  refine lv_iconst (v := 5) hx hb dX5_levelOf_24 (by decide) ?_
                                                  refine lv_iload hx hb dX5_levelOf_25 (lv_at hl 0 rfl) ?_
                                                  refine mz_mulN hx hb 5 ii dX5_levelOf_27 ?_
                                                  refine mz_addN hx hb fr (5 * ii) dX5_levelOf_28 ?_
                                                  refine va_calli (va_runS (As := [.ref g0, .int (nI (fr + (5 * ii)))]) (rest := [.int (mcM f0 fr 1 ii)]) ⟨hx, hb, hml, hown, hts⟩ (kX5_dangerOf l E g0 nn f0 (fr + (5 * ii)) (by first | omega | assumption | (intro k h; have := hz k h; omega)) (by first | omega | assumption | (intro k h; have := hz k h; omega))) (va_cwS 2 hts gX5_levelOf_X5_dangerOf rfl rfl rfl (by decide +kernel) ⟨Nat.le_of_ble_eq_true rfl, Nat.le_of_ble_eq_true rfl⟩) ⟨fb_R, fun U hU hW => ⟨rfl, (by rw [hU]; exact hP), hE.warm hW⟩⟩ rfl rfl hl.1 rfl (lv_room (Nat.le_of_ble_eq_true rfl)) dX5_levelOf_29 ⟨by first | exact Nat.le_of_ble_eq_true rfl | (show _ ≤ 0; omega), by first | exact Nat.le_of_ble_eq_true rfl | (show _ ≤ 0; omega)⟩) hS (fun q _ h => h.elim) (fun q h => h.elim) (fun r29_0 u t H1 locs ht hvm hw hB hz1 hk1 hS => ?_)
                                                  have hP := hP.ro hk1
                                                  generalize H1 = H at hP hS ⊢
                                                  subst hw
                                                  have KJ44 : ∀ (xx : Int32), xx = (if lvD (dngM (rwM f0 (fr + 5 * ii))) < 1 then 0 else 1) → ∀ (H : Heap) (locs : List Loc) (ls : Array Slot), va_P E.1 vwCl [(g0, .inl (E.2.1 0, nn, .inl f0))] H → va_S (fun _ : Nat => False) s.heap H locs → lv_has ls 5 [(4, .int (nI ii)), (3, .int (mcM f0 fr 1 ii)), (2, .int 1), (0, .ref g0), (1, .int (nI fr))] → W p l e (headSpec wsX5_levelOf ({ frames := 3, cells := 0, slots := 0, locals := 61 } : Room)).room s m [.ref g0, .int (nI fr)].toArray below meth c H locs 0 0 (MQ below (va_Qi (fun (r : Int32) (_ : Unit) => r = lvM f0 fr) (fun _ _ => True) (fun _ : Nat => False)) [.ref g0, .int (nI fr)].toArray s 0 0 (fun _ : Nat => False)) (F0 m 44 ls [.int xx, .int (mcM f0 fr 1 ii)]) := by
                                                    intro xx exx H locs ls hP hS hl
                                                    subst exx
                                                    refine lv_iadd hx hb dX5_levelOf_44 ?_
                                                    refine lv_istore_n (lv' := [(3, .int ((mcM f0 fr 1 ii) + (if lvD (dngM (rwM f0 (fr + 5 * ii))) < 1 then 0 else 1))), (4, .int (nI ii)), (2, .int 1), (0, .ref g0), (1, .int (nI fr))]) hx hb dX5_levelOf_45 rfl hl (by decide) rfl (fun ls hl => ?_)
                                                    refine mz_iinc (k := 1) (lv' := [(4, .int (nI (ii + 1))), (3, .int ((mcM f0 fr 1 ii) + (if lvD (dngM (rwM f0 (fr + 5 * ii))) < 1 then 0 else 1))), (2, .int 1), (0, .ref g0), (1, .int (nI fr))]) hx hb ii 1 dX5_levelOf_46 hl rfl (by decide) rfl (fun ls hl => ?_)
                                                    refine lv_goto (tgt := 14) hx hb dX5_levelOf_49 (by decide) ?_
                                                    exact ih14 (ii + 1) (by omega) (by omega) _ _ _ hP hS (lv_sub hl [0, 1, 2, 3, 4] rfl)
                                                  refine va_calli (va_runS (As := [.int (dngM (rwM f0 (fr + (5 * ii))))]) (rest := [.int (mcM f0 fr 1 ii)]) ⟨hx, hb, hml, hown, hts⟩ (kX5_levelBy l E (dngM (rwM f0 (fr + (5 * ii))))) (va_cwS 1 hts gX5_levelOf_X5_levelBy rfl rfl rfl (by decide +kernel) ⟨Nat.le_of_ble_eq_true rfl, Nat.le_of_ble_eq_true rfl⟩) ⟨fb_0, fun U hU hW => ⟨rfl, trivial⟩⟩ rfl rfl hl.1 rfl (lv_room (Nat.le_of_ble_eq_true rfl)) dX5_levelOf_32 ⟨by first | exact Nat.le_of_ble_eq_true rfl | (show _ ≤ 0; omega), by first | exact Nat.le_of_ble_eq_true rfl | (show _ ≤ 0; omega)⟩) hS (fun q _ h => h.elim) (fun q h => h.elim) (fun r32_1 u t H1 locs ht hvm hw hB hz1 hk1 hS => ?_)
                                                  have hP := hP.ro hk1
                                                  generalize H1 = H at hP hS ⊢
                                                  subst hw
                                                  refine lv_iload_n hx hb dX5_levelOf_35 rfl (lv_at hl 2 rfl) ?_
                                                  refine mz_lt (tgt := 43) hx hb dX5_levelOf_36 (by decide) (fun c_36 => ?_) (fun c_36 => ?_)
                                                  · refine lv_iconst (v := 0) hx hb dX5_levelOf_43 (by decide) ?_
                                                    exact KJ44 0 (by first | (simp only [if_pos c_6, if_pos c_55, if_pos c_6_2, if_pos c_55_2, if_pos c_6_3, if_pos c_55_3, if_pos c_6_4, if_pos c_55_4, if_pos c_6_5, if_pos c_18, if_pos c_36]; done) | rfl) _ _ _ hP hS (lv_sub hl [0, 1, 2, 3, 4] rfl)
                                                  · refine lv_iconst (v := 1) hx hb dX5_levelOf_39 (by decide) ?_
                                                    refine lv_goto (tgt := 44) hx hb dX5_levelOf_40 (by decide) ?_
                                                    exact KJ44 1 (by first | (simp only [if_pos c_6, if_pos c_55, if_pos c_6_2, if_pos c_55_2, if_pos c_6_3, if_pos c_55_3, if_pos c_6_4, if_pos c_55_4, if_pos c_6_5, if_pos c_18, if_neg c_36]; done) | rfl) _ _ _ hP hS (lv_sub hl [0, 1, 2, 3, 4] rfl)
                                            exact KL14 (12 + 1 - 0) 0 (by omega) (by omega) _ _ _ hP hS (lv_sub hl [0, 1, 2, 3, 4] rfl)
                                      · refine lv_iload_n hx hb dX5_levelOf_21 rfl (lv_at hl 1 rfl) ?_
                                        refine lv_aload_n hx hb dX5_levelOf_22 rfl (lv_at hl 3 rfl) ?_
                                        refine lv_iload_n hx hb dX5_levelOf_23 rfl (lv_at hl 4 rfl) ?_
                                        refine lv_iconst (v := 5) hx hb dX5_levelOf_24 (by decide) ?_
                                        refine lv_iload hx hb dX5_levelOf_25 (lv_at hl 0 rfl) ?_
                                        refine mz_mulN hx hb 5 ii dX5_levelOf_27 ?_
                                        refine mz_addN hx hb fr (5 * ii) dX5_levelOf_28 ?_
                                        refine va_calli (va_runS (As := [.ref g0, .int (nI (fr + (5 * ii)))]) (rest := [.int (mcM f0 fr 2 ii)]) ⟨hx, hb, hml, hown, hts⟩ (kX5_dangerOf l E g0 nn f0 (fr + (5 * ii)) (by first | omega | assumption | (intro k h; have := hz k h; omega)) (by first | omega | assumption | (intro k h; have := hz k h; omega))) (va_cwS 2 hts gX5_levelOf_X5_dangerOf rfl rfl rfl (by decide +kernel) ⟨Nat.le_of_ble_eq_true rfl, Nat.le_of_ble_eq_true rfl⟩) ⟨fb_R, fun U hU hW => ⟨rfl, (by rw [hU]; exact hP), hE.warm hW⟩⟩ rfl rfl hl.1 rfl (lv_room (Nat.le_of_ble_eq_true rfl)) dX5_levelOf_29 ⟨by first | exact Nat.le_of_ble_eq_true rfl | (show _ ≤ 0; omega), by first | exact Nat.le_of_ble_eq_true rfl | (show _ ≤ 0; omega)⟩) hS (fun q _ h => h.elim) (fun q h => h.elim) (fun r29_2 u t H1 locs ht hvm hw hB hz1 hk1 hS => ?_)
                                        have hP := hP.ro hk1
                                        generalize H1 = H at hP hS ⊢
                                        subst hw
                                        have KJ44 : ∀ (xx : Int32), xx = (if lvD (dngM (rwM f0 (fr + 5 * ii))) < 2 then 0 else 1) → ∀ (H : Heap) (locs : List Loc) (ls : Array Slot), va_P E.1 vwCl [(g0, .inl (E.2.1 0, nn, .inl f0))] H → va_S (fun _ : Nat => False) s.heap H locs → lv_has ls 5 [(4, .int (nI ii)), (3, .int (mcM f0 fr 2 ii)), (2, .int 2), (0, .ref g0), (1, .int (nI fr))] → W p l e (headSpec wsX5_levelOf ({ frames := 3, cells := 0, slots := 0, locals := 61 } : Room)).room s m [.ref g0, .int (nI fr)].toArray below meth c H locs 0 0 (MQ below (va_Qi (fun (r : Int32) (_ : Unit) => r = lvM f0 fr) (fun _ _ => True) (fun _ : Nat => False)) [.ref g0, .int (nI fr)].toArray s 0 0 (fun _ : Nat => False)) (F0 m 44 ls [.int xx, .int (mcM f0 fr 2 ii)]) := by
                                          intro xx exx H locs ls hP hS hl
                                          subst exx
                                          refine lv_iadd hx hb dX5_levelOf_44 ?_
                                          refine lv_istore_n (lv' := [(3, .int ((mcM f0 fr 2 ii) + (if lvD (dngM (rwM f0 (fr + 5 * ii))) < 2 then 0 else 1))), (4, .int (nI ii)), (2, .int 2), (0, .ref g0), (1, .int (nI fr))]) hx hb dX5_levelOf_45 rfl hl (by decide) rfl (fun ls hl => ?_)
                                          refine mz_iinc (k := 1) (lv' := [(4, .int (nI (ii + 1))), (3, .int ((mcM f0 fr 2 ii) + (if lvD (dngM (rwM f0 (fr + 5 * ii))) < 2 then 0 else 1))), (2, .int 2), (0, .ref g0), (1, .int (nI fr))]) hx hb ii 1 dX5_levelOf_46 hl rfl (by decide) rfl (fun ls hl => ?_)
                                          refine lv_goto (tgt := 14) hx hb dX5_levelOf_49 (by decide) ?_
                                          exact ih14 (ii + 1) (by omega) (by omega) _ _ _ hP hS (lv_sub hl [0, 1, 2, 3, 4] rfl)
                                        refine va_calli (va_runS (As := [.int (dngM (rwM f0 (fr + (5 * ii))))]) (rest := [.int (mcM f0 fr 2 ii)]) ⟨hx, hb, hml, hown, hts⟩ (kX5_levelBy l E (dngM (rwM f0 (fr + (5 * ii))))) (va_cwS 1 hts gX5_levelOf_X5_levelBy rfl rfl rfl (by decide +kernel) ⟨Nat.le_of_ble_eq_true rfl, Nat.le_of_ble_eq_true rfl⟩) ⟨fb_0, fun U hU hW => ⟨rfl, trivial⟩⟩ rfl rfl hl.1 rfl (lv_room (Nat.le_of_ble_eq_true rfl)) dX5_levelOf_32 ⟨by first | exact Nat.le_of_ble_eq_true rfl | (show _ ≤ 0; omega), by first | exact Nat.le_of_ble_eq_true rfl | (show _ ≤ 0; omega)⟩) hS (fun q _ h => h.elim) (fun q h => h.elim) (fun r32_3 u t H1 locs ht hvm hw hB hz1 hk1 hS => ?_)
                                        have hP := hP.ro hk1
                                        generalize H1 = H at hP hS ⊢
                                        subst hw
                                        refine lv_iload_n hx hb dX5_levelOf_35 rfl (lv_at hl 2 rfl) ?_
                                        refine mz_lt (tgt := 43) hx hb dX5_levelOf_36 (by decide) (fun c_36 => ?_) (fun c_36 => ?_)
                                        · refine lv_iconst (v := 0) hx hb dX5_levelOf_43 (by decide) ?_
                                          exact KJ44 0 (by first | (simp only [if_pos c_6, if_pos c_55, if_pos c_6_2, if_pos c_55_2, if_pos c_6_3, if_pos c_55_3, if_pos c_6_4, if_pos c_18, if_pos c_36]; done) | rfl) _ _ _ hP hS (lv_sub hl [0, 1, 2, 3, 4] rfl)
                                        · refine lv_iconst (v := 1) hx hb dX5_levelOf_39 (by decide) ?_
                                          refine lv_goto (tgt := 44) hx hb dX5_levelOf_40 (by decide) ?_
                                          exact KJ44 1 (by first | (simp only [if_pos c_6, if_pos c_55, if_pos c_6_2, if_pos c_55_2, if_pos c_6_3, if_pos c_55_3, if_pos c_6_4, if_pos c_18, if_neg c_36]; done) | rfl) _ _ _ hP hS (lv_sub hl [0, 1, 2, 3, 4] rfl)
                                  exact KL14 (12 + 1 - 0) 0 (by omega) (by omega) _ _ _ hP hS (lv_sub hl [0, 1, 2, 3, 4] rfl)
                            · refine lv_iload_n hx hb dX5_levelOf_21 rfl (lv_at hl 1 rfl) ?_
                              refine lv_aload_n hx hb dX5_levelOf_22 rfl (lv_at hl 3 rfl) ?_
                              refine lv_iload_n hx hb dX5_levelOf_23 rfl (lv_at hl 4 rfl) ?_
                              refine lv_iconst (v := 5) hx hb dX5_levelOf_24 (by decide) ?_
                              refine lv_iload hx hb dX5_levelOf_25 (lv_at hl 0 rfl) ?_
                              refine mz_mulN hx hb 5 ii dX5_levelOf_27 ?_
                              refine mz_addN hx hb fr (5 * ii) dX5_levelOf_28 ?_
                              refine va_calli (va_runS (As := [.ref g0, .int (nI (fr + (5 * ii)))]) (rest := [.int (mcM f0 fr 3 ii)]) ⟨hx, hb, hml, hown, hts⟩ (kX5_dangerOf l E g0 nn f0 (fr + (5 * ii)) (by first | omega | assumption | (intro k h; have := hz k h; omega)) (by first | omega | assumption | (intro k h; have := hz k h; omega))) (va_cwS 2 hts gX5_levelOf_X5_dangerOf rfl rfl rfl (by decide +kernel) ⟨Nat.le_of_ble_eq_true rfl, Nat.le_of_ble_eq_true rfl⟩) ⟨fb_R, fun U hU hW => ⟨rfl, (by rw [hU]; exact hP), hE.warm hW⟩⟩ rfl rfl hl.1 rfl (lv_room (Nat.le_of_ble_eq_true rfl)) dX5_levelOf_29 ⟨by first | exact Nat.le_of_ble_eq_true rfl | (show _ ≤ 0; omega), by first | exact Nat.le_of_ble_eq_true rfl | (show _ ≤ 0; omega)⟩) hS (fun q _ h => h.elim) (fun q h => h.elim) (fun r29_4 u t H1 locs ht hvm hw hB hz1 hk1 hS => ?_)
                              have hP := hP.ro hk1
                              generalize H1 = H at hP hS ⊢
                              subst hw
                              have KJ44 : ∀ (xx : Int32), xx = (if lvD (dngM (rwM f0 (fr + 5 * ii))) < 3 then 0 else 1) → ∀ (H : Heap) (locs : List Loc) (ls : Array Slot), va_P E.1 vwCl [(g0, .inl (E.2.1 0, nn, .inl f0))] H → va_S (fun _ : Nat => False) s.heap H locs → lv_has ls 5 [(4, .int (nI ii)), (3, .int (mcM f0 fr 3 ii)), (2, .int 3), (0, .ref g0), (1, .int (nI fr))] → W p l e (headSpec wsX5_levelOf ({ frames := 3, cells := 0, slots := 0, locals := 61 } : Room)).room s m [.ref g0, .int (nI fr)].toArray below meth c H locs 0 0 (MQ below (va_Qi (fun (r : Int32) (_ : Unit) => r = lvM f0 fr) (fun _ _ => True) (fun _ : Nat => False)) [.ref g0, .int (nI fr)].toArray s 0 0 (fun _ : Nat => False)) (F0 m 44 ls [.int xx, .int (mcM f0 fr 3 ii)]) := by
                                intro xx exx H locs ls hP hS hl
                                subst exx
                                refine lv_iadd hx hb dX5_levelOf_44 ?_
                                refine lv_istore_n (lv' := [(3, .int ((mcM f0 fr 3 ii) + (if lvD (dngM (rwM f0 (fr + 5 * ii))) < 3 then 0 else 1))), (4, .int (nI ii)), (2, .int 3), (0, .ref g0), (1, .int (nI fr))]) hx hb dX5_levelOf_45 rfl hl (by decide) rfl (fun ls hl => ?_)
                                refine mz_iinc (k := 1) (lv' := [(4, .int (nI (ii + 1))), (3, .int ((mcM f0 fr 3 ii) + (if lvD (dngM (rwM f0 (fr + 5 * ii))) < 3 then 0 else 1))), (2, .int 3), (0, .ref g0), (1, .int (nI fr))]) hx hb ii 1 dX5_levelOf_46 hl rfl (by decide) rfl (fun ls hl => ?_)
                                refine lv_goto (tgt := 14) hx hb dX5_levelOf_49 (by decide) ?_
                                exact ih14 (ii + 1) (by omega) (by omega) _ _ _ hP hS (lv_sub hl [0, 1, 2, 3, 4] rfl)
                              refine va_calli (va_runS (As := [.int (dngM (rwM f0 (fr + (5 * ii))))]) (rest := [.int (mcM f0 fr 3 ii)]) ⟨hx, hb, hml, hown, hts⟩ (kX5_levelBy l E (dngM (rwM f0 (fr + (5 * ii))))) (va_cwS 1 hts gX5_levelOf_X5_levelBy rfl rfl rfl (by decide +kernel) ⟨Nat.le_of_ble_eq_true rfl, Nat.le_of_ble_eq_true rfl⟩) ⟨fb_0, fun U hU hW => ⟨rfl, trivial⟩⟩ rfl rfl hl.1 rfl (lv_room (Nat.le_of_ble_eq_true rfl)) dX5_levelOf_32 ⟨by first | exact Nat.le_of_ble_eq_true rfl | (show _ ≤ 0; omega), by first | exact Nat.le_of_ble_eq_true rfl | (show _ ≤ 0; omega)⟩) hS (fun q _ h => h.elim) (fun q h => h.elim) (fun r32_5 u t H1 locs ht hvm hw hB hz1 hk1 hS => ?_)
                              have hP := hP.ro hk1
                              generalize H1 = H at hP hS ⊢
                              subst hw
                              refine lv_iload_n hx hb dX5_levelOf_35 rfl (lv_at hl 2 rfl) ?_
                              refine mz_lt (tgt := 43) hx hb dX5_levelOf_36 (by decide) (fun c_36 => ?_) (fun c_36 => ?_)
                              · refine lv_iconst (v := 0) hx hb dX5_levelOf_43 (by decide) ?_
                                exact KJ44 0 (by first | (simp only [if_pos c_6, if_pos c_55, if_pos c_6_2, if_pos c_55_2, if_pos c_6_3, if_pos c_18, if_pos c_36]; done) | rfl) _ _ _ hP hS (lv_sub hl [0, 1, 2, 3, 4] rfl)
                              · refine lv_iconst (v := 1) hx hb dX5_levelOf_39 (by decide) ?_
                                refine lv_goto (tgt := 44) hx hb dX5_levelOf_40 (by decide) ?_
                                exact KJ44 1 (by first | (simp only [if_pos c_6, if_pos c_55, if_pos c_6_2, if_pos c_55_2, if_pos c_6_3, if_pos c_18, if_neg c_36]; done) | rfl) _ _ _ hP hS (lv_sub hl [0, 1, 2, 3, 4] rfl)
                        exact KL14 (12 + 1 - 0) 0 (by omega) (by omega) _ _ _ hP hS (lv_sub hl [0, 1, 2, 3, 4] rfl)
                  · refine lv_iload_n hx hb dX5_levelOf_21 rfl (lv_at hl 1 rfl) ?_
                    refine lv_aload_n hx hb dX5_levelOf_22 rfl (lv_at hl 3 rfl) ?_
                    refine lv_iload_n hx hb dX5_levelOf_23 rfl (lv_at hl 4 rfl) ?_
                    refine lv_iconst (v := 5) hx hb dX5_levelOf_24 (by decide) ?_
                    refine lv_iload hx hb dX5_levelOf_25 (lv_at hl 0 rfl) ?_
                    refine mz_mulN hx hb 5 ii dX5_levelOf_27 ?_
                    refine mz_addN hx hb fr (5 * ii) dX5_levelOf_28 ?_
                    refine va_calli (va_runS (As := [.ref g0, .int (nI (fr + (5 * ii)))]) (rest := [.int (mcM f0 fr 4 ii)]) ⟨hx, hb, hml, hown, hts⟩ (kX5_dangerOf l E g0 nn f0 (fr + (5 * ii)) (by first | omega | assumption | (intro k h; have := hz k h; omega)) (by first | omega | assumption | (intro k h; have := hz k h; omega))) (va_cwS 2 hts gX5_levelOf_X5_dangerOf rfl rfl rfl (by decide +kernel) ⟨Nat.le_of_ble_eq_true rfl, Nat.le_of_ble_eq_true rfl⟩) ⟨fb_R, fun U hU hW => ⟨rfl, (by rw [hU]; exact hP), hE.warm hW⟩⟩ rfl rfl hl.1 rfl (lv_room (Nat.le_of_ble_eq_true rfl)) dX5_levelOf_29 ⟨by first | exact Nat.le_of_ble_eq_true rfl | (show _ ≤ 0; omega), by first | exact Nat.le_of_ble_eq_true rfl | (show _ ≤ 0; omega)⟩) hS (fun q _ h => h.elim) (fun q h => h.elim) (fun r29_6 u t H1 locs ht hvm hw hB hz1 hk1 hS => ?_)
                    have hP := hP.ro hk1
                    generalize H1 = H at hP hS ⊢
                    subst hw
                    have KJ44 : ∀ (xx : Int32), xx = (if lvD (dngM (rwM f0 (fr + 5 * ii))) < 4 then 0 else 1) → ∀ (H : Heap) (locs : List Loc) (ls : Array Slot), va_P E.1 vwCl [(g0, .inl (E.2.1 0, nn, .inl f0))] H → va_S (fun _ : Nat => False) s.heap H locs → lv_has ls 5 [(4, .int (nI ii)), (3, .int (mcM f0 fr 4 ii)), (2, .int 4), (0, .ref g0), (1, .int (nI fr))] → W p l e (headSpec wsX5_levelOf ({ frames := 3, cells := 0, slots := 0, locals := 61 } : Room)).room s m [.ref g0, .int (nI fr)].toArray below meth c H locs 0 0 (MQ below (va_Qi (fun (r : Int32) (_ : Unit) => r = lvM f0 fr) (fun _ _ => True) (fun _ : Nat => False)) [.ref g0, .int (nI fr)].toArray s 0 0 (fun _ : Nat => False)) (F0 m 44 ls [.int xx, .int (mcM f0 fr 4 ii)]) := by
                      intro xx exx H locs ls hP hS hl
                      subst exx
                      refine lv_iadd hx hb dX5_levelOf_44 ?_
                      refine lv_istore_n (lv' := [(3, .int ((mcM f0 fr 4 ii) + (if lvD (dngM (rwM f0 (fr + 5 * ii))) < 4 then 0 else 1))), (4, .int (nI ii)), (2, .int 4), (0, .ref g0), (1, .int (nI fr))]) hx hb dX5_levelOf_45 rfl hl (by decide) rfl (fun ls hl => ?_)
                      refine mz_iinc (k := 1) (lv' := [(4, .int (nI (ii + 1))), (3, .int ((mcM f0 fr 4 ii) + (if lvD (dngM (rwM f0 (fr + 5 * ii))) < 4 then 0 else 1))), (2, .int 4), (0, .ref g0), (1, .int (nI fr))]) hx hb ii 1 dX5_levelOf_46 hl rfl (by decide) rfl (fun ls hl => ?_)
                      refine lv_goto (tgt := 14) hx hb dX5_levelOf_49 (by decide) ?_
                      exact ih14 (ii + 1) (by omega) (by omega) _ _ _ hP hS (lv_sub hl [0, 1, 2, 3, 4] rfl)
                    refine va_calli (va_runS (As := [.int (dngM (rwM f0 (fr + (5 * ii))))]) (rest := [.int (mcM f0 fr 4 ii)]) ⟨hx, hb, hml, hown, hts⟩ (kX5_levelBy l E (dngM (rwM f0 (fr + (5 * ii))))) (va_cwS 1 hts gX5_levelOf_X5_levelBy rfl rfl rfl (by decide +kernel) ⟨Nat.le_of_ble_eq_true rfl, Nat.le_of_ble_eq_true rfl⟩) ⟨fb_0, fun U hU hW => ⟨rfl, trivial⟩⟩ rfl rfl hl.1 rfl (lv_room (Nat.le_of_ble_eq_true rfl)) dX5_levelOf_32 ⟨by first | exact Nat.le_of_ble_eq_true rfl | (show _ ≤ 0; omega), by first | exact Nat.le_of_ble_eq_true rfl | (show _ ≤ 0; omega)⟩) hS (fun q _ h => h.elim) (fun q h => h.elim) (fun r32_7 u t H1 locs ht hvm hw hB hz1 hk1 hS => ?_)
                    have hP := hP.ro hk1
                    generalize H1 = H at hP hS ⊢
                    subst hw
                    refine lv_iload_n hx hb dX5_levelOf_35 rfl (lv_at hl 2 rfl) ?_
                    refine mz_lt (tgt := 43) hx hb dX5_levelOf_36 (by decide) (fun c_36 => ?_) (fun c_36 => ?_)
                    · refine lv_iconst (v := 0) hx hb dX5_levelOf_43 (by decide) ?_
                      exact KJ44 0 (by first | (simp only [if_pos c_6, if_pos c_55, if_pos c_6_2, if_pos c_18, if_pos c_36]; done) | rfl) _ _ _ hP hS (lv_sub hl [0, 1, 2, 3, 4] rfl)
                    · refine lv_iconst (v := 1) hx hb dX5_levelOf_39 (by decide) ?_
                      refine lv_goto (tgt := 44) hx hb dX5_levelOf_40 (by decide) ?_
                      exact KJ44 1 (by first | (simp only [if_pos c_6, if_pos c_55, if_pos c_6_2, if_pos c_18, if_neg c_36]; done) | rfl) _ _ _ hP hS (lv_sub hl [0, 1, 2, 3, 4] rfl)
              exact KL14 (12 + 1 - 0) 0 (by omega) (by omega) _ _ _ hP hS (lv_sub hl [0, 1, 2, 3, 4] rfl)
        · refine lv_iload_n hx hb dX5_levelOf_21 rfl (lv_at hl 1 rfl) ?_
          refine lv_aload_n hx hb dX5_levelOf_22 rfl (lv_at hl 3 rfl) ?_
          refine lv_iload_n hx hb dX5_levelOf_23 rfl (lv_at hl 4 rfl) ?_
          refine lv_iconst (v := 5) hx hb dX5_levelOf_24 (by decide) ?_
          refine lv_iload hx hb dX5_levelOf_25 (lv_at hl 0 rfl) ?_
          refine mz_mulN hx hb 5 ii dX5_levelOf_27 ?_
          refine mz_addN hx hb fr (5 * ii) dX5_levelOf_28 ?_
          refine va_calli (va_runS (As := [.ref g0, .int (nI (fr + (5 * ii)))]) (rest := [.int (mcM f0 fr 5 ii)]) ⟨hx, hb, hml, hown, hts⟩ (kX5_dangerOf l E g0 nn f0 (fr + (5 * ii)) (by first | omega | assumption | (intro k h; have := hz k h; omega)) (by first | omega | assumption | (intro k h; have := hz k h; omega))) (va_cwS 2 hts gX5_levelOf_X5_dangerOf rfl rfl rfl (by decide +kernel) ⟨Nat.le_of_ble_eq_true rfl, Nat.le_of_ble_eq_true rfl⟩) ⟨fb_R, fun U hU hW => ⟨rfl, (by rw [hU]; exact hP), hE.warm hW⟩⟩ rfl rfl hl.1 rfl (lv_room (Nat.le_of_ble_eq_true rfl)) dX5_levelOf_29 ⟨by first | exact Nat.le_of_ble_eq_true rfl | (show _ ≤ 0; omega), by first | exact Nat.le_of_ble_eq_true rfl | (show _ ≤ 0; omega)⟩) hS (fun q _ h => h.elim) (fun q h => h.elim) (fun r29_8 u t H1 locs ht hvm hw hB hz1 hk1 hS => ?_)
          have hP := hP.ro hk1
          generalize H1 = H at hP hS ⊢
          subst hw
          have KJ44 : ∀ (xx : Int32), xx = (if lvD (dngM (rwM f0 (fr + 5 * ii))) < 5 then 0 else 1) → ∀ (H : Heap) (locs : List Loc) (ls : Array Slot), va_P E.1 vwCl [(g0, .inl (E.2.1 0, nn, .inl f0))] H → va_S (fun _ : Nat => False) s.heap H locs → lv_has ls 5 [(4, .int (nI ii)), (3, .int (mcM f0 fr 5 ii)), (2, .int 5), (0, .ref g0), (1, .int (nI fr))] → W p l e (headSpec wsX5_levelOf ({ frames := 3, cells := 0, slots := 0, locals := 61 } : Room)).room s m [.ref g0, .int (nI fr)].toArray below meth c H locs 0 0 (MQ below (va_Qi (fun (r : Int32) (_ : Unit) => r = lvM f0 fr) (fun _ _ => True) (fun _ : Nat => False)) [.ref g0, .int (nI fr)].toArray s 0 0 (fun _ : Nat => False)) (F0 m 44 ls [.int xx, .int (mcM f0 fr 5 ii)]) := by
            intro xx exx H locs ls hP hS hl
            subst exx
            refine lv_iadd hx hb dX5_levelOf_44 ?_
            refine lv_istore_n (lv' := [(3, .int ((mcM f0 fr 5 ii) + (if lvD (dngM (rwM f0 (fr + 5 * ii))) < 5 then 0 else 1))), (4, .int (nI ii)), (2, .int 5), (0, .ref g0), (1, .int (nI fr))]) hx hb dX5_levelOf_45 rfl hl (by decide) rfl (fun ls hl => ?_)
            refine mz_iinc (k := 1) (lv' := [(4, .int (nI (ii + 1))), (3, .int ((mcM f0 fr 5 ii) + (if lvD (dngM (rwM f0 (fr + 5 * ii))) < 5 then 0 else 1))), (2, .int 5), (0, .ref g0), (1, .int (nI fr))]) hx hb ii 1 dX5_levelOf_46 hl rfl (by decide) rfl (fun ls hl => ?_)
            refine lv_goto (tgt := 14) hx hb dX5_levelOf_49 (by decide) ?_
            exact ih14 (ii + 1) (by omega) (by omega) _ _ _ hP hS (lv_sub hl [0, 1, 2, 3, 4] rfl)
          refine va_calli (va_runS (As := [.int (dngM (rwM f0 (fr + (5 * ii))))]) (rest := [.int (mcM f0 fr 5 ii)]) ⟨hx, hb, hml, hown, hts⟩ (kX5_levelBy l E (dngM (rwM f0 (fr + (5 * ii))))) (va_cwS 1 hts gX5_levelOf_X5_levelBy rfl rfl rfl (by decide +kernel) ⟨Nat.le_of_ble_eq_true rfl, Nat.le_of_ble_eq_true rfl⟩) ⟨fb_0, fun U hU hW => ⟨rfl, trivial⟩⟩ rfl rfl hl.1 rfl (lv_room (Nat.le_of_ble_eq_true rfl)) dX5_levelOf_32 ⟨by first | exact Nat.le_of_ble_eq_true rfl | (show _ ≤ 0; omega), by first | exact Nat.le_of_ble_eq_true rfl | (show _ ≤ 0; omega)⟩) hS (fun q _ h => h.elim) (fun q h => h.elim) (fun r32_9 u t H1 locs ht hvm hw hB hz1 hk1 hS => ?_)
          have hP := hP.ro hk1
          generalize H1 = H at hP hS ⊢
          subst hw
          refine lv_iload_n hx hb dX5_levelOf_35 rfl (lv_at hl 2 rfl) ?_
          refine mz_lt (tgt := 43) hx hb dX5_levelOf_36 (by decide) (fun c_36 => ?_) (fun c_36 => ?_)
          · refine lv_iconst (v := 0) hx hb dX5_levelOf_43 (by decide) ?_
            exact KJ44 0 (by first | (simp only [if_pos c_6, if_pos c_18, if_pos c_36]; done) | rfl) _ _ _ hP hS (lv_sub hl [0, 1, 2, 3, 4] rfl)
          · refine lv_iconst (v := 1) hx hb dX5_levelOf_39 (by decide) ?_
            refine lv_goto (tgt := 44) hx hb dX5_levelOf_40 (by decide) ?_
            exact KJ44 1 (by first | (simp only [if_pos c_6, if_pos c_18, if_neg c_36]; done) | rfl) _ _ _ hP hS (lv_sub hl [0, 1, 2, 3, 4] rfl)
    exact KL14 (12 + 1 - 0) 0 (by omega) (by omega) _ _ _ hP hS (lv_sub hl [0, 1, 2, 3, 4] rfl)
set_option maxHeartbeats 4000000 in
set_option maxRecDepth 100000 in
theorem kX5_level (l : Launch) (E : ev_T) (m0 : Nat) (m1 : Nat) (m2 : Nat) (m3 : Nat) (m4 : Nat) (m5 : Nat) (m6 : Nat) (m7 : Nat) (m8 : Nat) (th : Int32) (md : Nat) (mr : Nat) (ms : Nat) (ml : Nat) (g0 : Nat) (nn : Nat) (f0 : Nat → Int32) (rg : Nat) (hp : (12 * rg + 0) * 5 + 60 ≤ nn) (hn : nn < 2147483648) : Met l yX5_level wsX5_level ({ frames := 4, cells := 0, slots := 0, locals := 85 } : Room) (va_Pc [.ref m0, .ref g0, .int (nI rg)] (pr_R E [(m0, .inr (5, [.int th, .int (nI md), .int (nI mr), .ref m1, .ref m2, .ref m3, .ref m4, .ref m5, .int (nI ms), .ref m6, .int (nI ml), .ref m7, .ref m8])), (g0, .inl (E.2.1 0, nn, .inl f0))])) (va_Qi (fun (r : Int32) (_ : Unit) => r = levM f0 rg) (fun _ _ => True) (fun _ : Nat => False)) 0 0 (fun _ : Nat => False) := by
  refine Met.ofW (cc := cX5_level) (maxL := 3) (ret := (some .int)) (by decide) rfl ?_
  intro p e s m args below meth c s₁ B hml hv
  obtain ⟨rfl, hP, hE⟩ := hv
  have hx := B.exec
  have hb := B.bytes
  have hr := B.returns
  have hts := atoms_spec (ws := wsX5_level) B.pre
  have hown : s.vm.findClass RX5 = some m.cls := findClass_of_methodNamed B.named
  have hlocks := B.notSynchronized
  refine mz_start (fun H locs hH hL => ?_)
  have hS : va_S (fun _ : Nat => False) s.heap H locs := by rw [hH, hL]; exact va_S.rf
  have hl := lv_entry ([.ref m0, .ref g0, .int (nI rg)]) (n := 3) (Nat.le_of_ble_eq_true rfl)
  rw [lg_entry_eq]
  generalize (lg_sl ([.ref m0, .ref g0, .int (nI rg)]) ++ List.replicate (3 - (lg_sl ([.ref m0, .ref g0, .int (nI rg)])).length) Slot.unset).toArray = ls at hl ⊢
  have hl : lv_has ls 3 [(0, .ref m0), (1, .ref g0), (2, .int (nI rg))] := hl
  have hP : va_P E.1 vwCl [(m0, .inr (5, [.int th, .int (nI md), .int (nI mr), .ref m1, .ref m2, .ref m3, .ref m4, .ref m5, .int (nI ms), .ref m6, .int (nI ml), .ref m7, .ref m8])), (g0, .inl (E.2.1 0, nn, .inl f0))] H := by rw [hH]; exact hP
  refine lv_aload_n hx hb dX5_level_0 rfl (lv_at hl 1 rfl) ?_
  refine lv_iload_n hx hb dX5_level_1 rfl (lv_at hl 2 rfl) ?_
  refine lv_iconst (v := 0) hx hb dX5_level_2 (by decide) ?_
  refine va_calli (va_runS (As := [.int (nI rg), .int 0]) (rest := [.ref g0]) ⟨hx, hb, hml, hown, hts⟩ (kX5_at l E rg 0) (va_cwS 2 hts gX5_level_X5_at rfl rfl rfl (by decide +kernel) ⟨Nat.le_of_ble_eq_true rfl, Nat.le_of_ble_eq_true rfl⟩) ⟨fb_0, fun U hU hW => ⟨rfl, trivial⟩⟩ rfl rfl hl.1 rfl (lv_room (Nat.le_of_ble_eq_true rfl)) dX5_level_3 ⟨by first | exact Nat.le_of_ble_eq_true rfl | (show _ ≤ 0; omega), by first | exact Nat.le_of_ble_eq_true rfl | (show _ ≤ 0; omega)⟩) hS (fun q _ h => h.elim) (fun q h => h.elim) (fun r3_0 u t H1 locs ht hvm hw hB hz1 hk1 hS => ?_)
  have hP := hP.ro hk1
  generalize H1 = H at hP hS ⊢
  subst hw
  refine va_calli (va_runS (As := [.ref g0, .int (nI ((12 * rg + 0) * 5))]) (rest := []) ⟨hx, hb, hml, hown, hts⟩ (kX5_levelOf l E g0 nn f0 ((12 * rg + 0) * 5) (by first | omega | assumption | (intro k h; have := hz k h; omega)) (by first | omega | assumption | (intro k h; have := hz k h; omega))) (va_cwS 2 hts gX5_level_X5_levelOf rfl rfl rfl (by decide +kernel) ⟨Nat.le_of_ble_eq_true rfl, Nat.le_of_ble_eq_true rfl⟩) ⟨fb_R, fun U hU hW => ⟨rfl, (by rw [hU]; exact hP.sub (ws' := [(g0, .inl (E.2.1 0, nn, .inl f0))]) [1] rfl), hE.warm hW⟩⟩ rfl rfl hl.1 rfl (lv_room (Nat.le_of_ble_eq_true rfl)) dX5_level_6 ⟨by first | exact Nat.le_of_ble_eq_true rfl | (show _ ≤ 0; omega), by first | exact Nat.le_of_ble_eq_true rfl | (show _ ≤ 0; omega)⟩) hS (fun q _ h => h.elim) (fun q h => h.elim) (fun r6_1 u t H1 locs ht hvm hw hB hz1 hk1 hS => ?_)
  have hP := hP.ro hk1
  generalize H1 = H at hP hS ⊢
  subst hw
  exact W.iret (v := lvM f0 ((12 * rg + 0) * 5)) hx hb hr (fun t ht hW => ⟨⟨_, (), rfl, (by first | rfl), trivial⟩, hS.F ht⟩) hS.2.2 dX5_level_9
set_option maxHeartbeats 4000000 in
set_option maxRecDepth 100000 in
theorem kX5_coreOf (l : Launch) (E : ev_T) (m0 : Nat) (m1 : Nat) (m2 : Nat) (m3 : Nat) (m4 : Nat) (m5 : Nat) (m6 : Nat) (m7 : Nat) (m8 : Nat) (th : Int32) (md : Nat) (mr : Nat) (ms : Nat) (ml : Nat) (NU : Nat → Int32) (rg : Nat) (hrg : rg < 6) : Met l yX5_coreOf wsX5_coreOf ({ frames := 5, cells := 0, slots := 0, locals := 107 } : Room) (va_Pc [.ref m0, .int (nI rg)] (pr_R E [(m0, .inr (5, [.int th, .int (nI md), .int (nI mr), .ref m1, .ref m2, .ref m3, .ref m4, .ref m5, .int (nI ms), .ref m6, .int (nI ml), .ref m7, .ref m8])), (m1, .inl (E.2.1 0, 360, .inl NU))])) (va_Qi (fun (r : Int32) (_ : Unit) => r = corM NU rg) (fun _ _ => True) (fun _ : Nat => False)) 0 0 (fun _ : Nat => False) := by
  refine Met.ofW (cc := cX5_coreOf) (maxL := 5) (ret := (some .int)) (by decide) rfl ?_
  intro p e s m args below meth c s₁ B hml hv
  obtain ⟨rfl, hP, hE⟩ := hv
  have hx := B.exec
  have hb := B.bytes
  have hr := B.returns
  have hts := atoms_spec (ws := wsX5_coreOf) B.pre
  have hown : s.vm.findClass RX5 = some m.cls := findClass_of_methodNamed B.named
  have hlocks := B.notSynchronized
  refine mz_start (fun H locs hH hL => ?_)
  have hS : va_S (fun _ : Nat => False) s.heap H locs := by rw [hH, hL]; exact va_S.rf
  have f_9 := hts (.fieldLink RX5 9 "AvalancheDeskModel" "numbers" "[I") (by decide +kernel)
  have inX5 : ∀ w ∈ wsX50, w ∈ wsX5_coreOf := by decide +kernel
  have hl := lv_entry ([.ref m0, .int (nI rg)]) (n := 5) (Nat.le_of_ble_eq_true rfl)
  rw [lg_entry_eq]
  generalize (lg_sl ([.ref m0, .int (nI rg)]) ++ List.replicate (5 - (lg_sl ([.ref m0, .int (nI rg)])).length) Slot.unset).toArray = ls at hl ⊢
  have hl : lv_has ls 5 [(0, .ref m0), (1, .int (nI rg))] := hl
  have hP : va_P E.1 vwCl [(m0, .inr (5, [.int th, .int (nI md), .int (nI mr), .ref m1, .ref m2, .ref m3, .ref m4, .ref m5, .int (nI ms), .ref m6, .int (nI ml), .ref m7, .ref m8])), (m1, .inl (E.2.1 0, 360, .inl NU))] H := by rw [hH]; exact hP
  refine lv_iconst (v := 0) hx hb dX5_coreOf_0 (by decide) ?_
  refine lv_istore_n (lv' := [(2, .int 0), (0, .ref m0), (1, .int (nI rg))]) hx hb dX5_coreOf_1 rfl hl (by decide) rfl (fun ls hl => ?_)
  refine lv_aload_n hx hb dX5_coreOf_2 rfl (lv_at hl 1 rfl) ?_
  refine lv_aload_n hx hb dX5_coreOf_3 rfl (lv_at hl 1 rfl) ?_
  refine va_get (D := E.1) (ci := 5) (v := .ref m1) (C := RX5) (T := TX5) (N := 13) hx hb hts inX5 hown hE.1 hP 0 rfl rfl 3 (by decide) f_9 (fun _ h9 => h9) rfl dX5_coreOf_4 ?_
  refine lv_iload_n hx hb dX5_coreOf_7 rfl (lv_at hl 2 rfl) ?_
  refine va_calli (va_runV (As := [.ref m1, .int (nI rg)]) (rest := []) ⟨hx, hb, hml, hown, hts⟩ (kX5_level l E m0 m1 m2 m3 m4 m5 m6 m7 m8 th md mr ms ml m1 360 NU rg (by first | omega | assumption | (intro k h; have := hz k h; omega)) (by first | omega | assumption | (intro k h; have := hz k h; omega))) (cwV 2 hts gX5_coreOf_X5_level rfl rfl rfl (by decide +kernel) ⟨Nat.le_of_ble_eq_true rfl, Nat.le_of_ble_eq_true rfl⟩) ⟨fb_R, va_recv hE.1 hP (ci := 5) (q0 := 0) rfl rfl, fun U hU hW => ⟨rfl, (by rw [hU]; exact hP), hE.warm hW⟩⟩ rfl rfl hl.1 rfl (lv_room (Nat.le_of_ble_eq_true rfl)) dX5_coreOf_8 ⟨by first | exact Nat.le_of_ble_eq_true rfl | (show _ ≤ 0; omega), by first | exact Nat.le_of_ble_eq_true rfl | (show _ ≤ 0; omega)⟩) hS (fun q _ h => h.elim) (fun q h => h.elim) (fun r8_0 u t H1 locs ht hvm hw hB hz1 hk1 hS => ?_)
  have hP := hP.ro hk1
  generalize H1 = H at hP hS ⊢
  subst hw
  refine lv_istore_n (lv' := [(3, .int (levM NU rg)), (2, .int 0), (0, .ref m0), (1, .int (nI rg))]) hx hb dX5_coreOf_11 rfl hl (by decide) rfl (fun ls hl => ?_)
  refine lv_iconst (v := 0) hx hb dX5_coreOf_12 (by decide) ?_
  refine lv_istore (lv' := [(4, .int 0), (3, .int (levM NU rg)), (2, .int 0), (0, .ref m0), (1, .int (nI rg))]) hx hb dX5_coreOf_13 hl (by decide) rfl (fun ls hl => ?_)
  have KL15 : ∀ (n15 ii : Nat), ii ≤ 12 → 12 < n15 + ii → ∀ (H : Heap) (locs : List Loc) (ls : Array Slot), va_P E.1 vwCl [(m0, .inr (5, [.int th, .int (nI md), .int (nI mr), .ref m1, .ref m2, .ref m3, .ref m4, .ref m5, .int (nI ms), .ref m6, .int (nI ml), .ref m7, .ref m8])), (m1, .inl (E.2.1 0, 360, .inl NU))] H → va_S (fun _ : Nat => False) s.heap H locs → lv_has ls 5 [(4, .int (nI ii)), (3, .int (levM NU rg)), (2, .int (crM NU rg (levM NU rg) ii)), (0, .ref m0), (1, .int (nI rg))] → W p l e (headSpec wsX5_coreOf ({ frames := 5, cells := 0, slots := 0, locals := 107 } : Room)).room s m [.ref m0, .int (nI rg)].toArray below meth c H locs 0 0 (MQ below (va_Qi (fun (r : Int32) (_ : Unit) => r = corM NU rg) (fun _ _ => True) (fun _ : Nat => False)) [.ref m0, .int (nI rg)].toArray s 0 0 (fun _ : Nat => False)) (F0 m 15 ls []) := by
    intro n15
    induction n15 with
    | zero => intro ii h1 h2; exact absurd h2 (by omega)
    | succ n15 ih15 =>
      intro ii hi15 hn15 H locs ls hP hS hl
      refine lv_iload hx hb dX5_coreOf_15 (lv_at hl 0 rfl) ?_
      refine lv_bipush (v := 12) hx hb dX5_coreOf_17 (by decide) ?_
      refine mz_geN hx hb ii 12 (tgt := 55) dX5_coreOf_19 (by decide) (by omega) (by omega) (fun c_19 => ?_) (fun c_19 => ?_)
      · have hq99 : ii = 12 := by omega
        subst ii
        refine lv_iload_n hx hb dX5_coreOf_55 rfl (lv_at hl 2 rfl) ?_
        exact W.iret (v := crM NU rg (levM NU rg) 12) hx hb hr (fun t ht hW => ⟨⟨_, (), rfl, (by first | rfl), trivial⟩, hS.F ht⟩) hS.2.2 dX5_coreOf_56
      · have KJ49 : ∀ (xx : Int32), xx = (crM NU rg (levM NU rg) (ii + 1)) → ∀ (H : Heap) (locs : List Loc) (ls : Array Slot), va_P E.1 vwCl [(m0, .inr (5, [.int th, .int (nI md), .int (nI mr), .ref m1, .ref m2, .ref m3, .ref m4, .ref m5, .int (nI ms), .ref m6, .int (nI ml), .ref m7, .ref m8])), (m1, .inl (E.2.1 0, 360, .inl NU))] H → va_S (fun _ : Nat => False) s.heap H locs → lv_has ls 5 [(2, .int xx), (4, .int (nI ii)), (3, .int (levM NU rg)), (0, .ref m0), (1, .int (nI rg))] → W p l e (headSpec wsX5_coreOf ({ frames := 5, cells := 0, slots := 0, locals := 107 } : Room)).room s m [.ref m0, .int (nI rg)].toArray below meth c H locs 0 0 (MQ below (va_Qi (fun (r : Int32) (_ : Unit) => r = corM NU rg) (fun _ _ => True) (fun _ : Nat => False)) [.ref m0, .int (nI rg)].toArray s 0 0 (fun _ : Nat => False)) (F0 m 49 ls []) := by
          intro xx exx H locs ls hP hS hl
          subst exx
          refine mz_iinc (k := 1) (lv' := [(4, .int (nI (ii + 1))), (2, .int (crM NU rg (levM NU rg) (ii + 1))), (3, .int (levM NU rg)), (0, .ref m0), (1, .int (nI rg))]) hx hb ii 1 dX5_coreOf_49 hl rfl (by decide) rfl (fun ls hl => ?_)
          refine lv_goto (tgt := 15) hx hb dX5_coreOf_52 (by decide) ?_
          exact ih15 (ii + 1) (by omega) (by omega) _ _ _ hP hS (lv_sub hl [0, 2, 1, 3, 4] rfl)
        refine lv_aload_n hx hb dX5_coreOf_22 rfl (lv_at hl 3 rfl) ?_
        refine va_get (D := E.1) (ci := 5) (v := .ref m1) (C := RX5) (T := TX5) (N := 13) hx hb hts inX5 hown hE.1 hP 0 rfl rfl 3 (by decide) f_9 (fun _ h9 => h9) rfl dX5_coreOf_23 ?_
        refine lv_iload_n hx hb dX5_coreOf_26 rfl (lv_at hl 4 rfl) ?_
        refine lv_iload hx hb dX5_coreOf_27 (lv_at hl 0 rfl) ?_
        refine va_calli (va_runS (As := [.int (nI rg), .int (nI ii)]) (rest := [.ref m1]) ⟨hx, hb, hml, hown, hts⟩ (kX5_at l E rg ii) (va_cwS 2 hts gX5_coreOf_X5_at rfl rfl rfl (by decide +kernel) ⟨Nat.le_of_ble_eq_true rfl, Nat.le_of_ble_eq_true rfl⟩) ⟨fb_0, fun U hU hW => ⟨rfl, trivial⟩⟩ rfl rfl hl.1 rfl (lv_room (Nat.le_of_ble_eq_true rfl)) dX5_coreOf_29 ⟨by first | exact Nat.le_of_ble_eq_true rfl | (show _ ≤ 0; omega), by first | exact Nat.le_of_ble_eq_true rfl | (show _ ≤ 0; omega)⟩) hS (fun q _ h => h.elim) (fun q h => h.elim) (fun r29_1 u t H1 locs ht hvm hw hB hz1 hk1 hS => ?_)
        have hP := hP.ro hk1
        generalize H1 = H at hP hS ⊢
        subst hw
        refine va_calli (va_runS (As := [.ref m1, .int (nI ((12 * rg + ii) * 5))]) (rest := []) ⟨hx, hb, hml, hown, hts⟩ (kX5_dangerOf l E m1 360 NU ((12 * rg + ii) * 5) (by first | omega | assumption | (intro k h; have := hz k h; omega)) (by first | omega | assumption | (intro k h; have := hz k h; omega))) (va_cwS 2 hts gX5_coreOf_X5_dangerOf rfl rfl rfl (by decide +kernel) ⟨Nat.le_of_ble_eq_true rfl, Nat.le_of_ble_eq_true rfl⟩) ⟨fb_R, fun U hU hW => ⟨rfl, (by rw [hU]; exact hP.sub (ws' := [(m1, .inl (E.2.1 0, 360, .inl NU))]) [1] rfl), hE.warm hW⟩⟩ rfl rfl hl.1 rfl (lv_room (Nat.le_of_ble_eq_true rfl)) dX5_coreOf_32 ⟨by first | exact Nat.le_of_ble_eq_true rfl | (show _ ≤ 0; omega), by first | exact Nat.le_of_ble_eq_true rfl | (show _ ≤ 0; omega)⟩) hS (fun q _ h => h.elim) (fun q h => h.elim) (fun r32_2 u t H1 locs ht hvm hw hB hz1 hk1 hS => ?_)
        have hP := hP.ro hk1
        generalize H1 = H at hP hS ⊢
        subst hw
        refine va_calli (va_runS (As := [.int (dngM (rwM NU ((12 * rg + ii) * 5)))]) (rest := []) ⟨hx, hb, hml, hown, hts⟩ (kX5_levelBy l E (dngM (rwM NU ((12 * rg + ii) * 5)))) (va_cwS 1 hts gX5_coreOf_X5_levelBy rfl rfl rfl (by decide +kernel) ⟨Nat.le_of_ble_eq_true rfl, Nat.le_of_ble_eq_true rfl⟩) ⟨fb_0, fun U hU hW => ⟨rfl, trivial⟩⟩ rfl rfl hl.1 rfl (lv_room (Nat.le_of_ble_eq_true rfl)) dX5_coreOf_35 ⟨by first | exact Nat.le_of_ble_eq_true rfl | (show _ ≤ 0; omega), by first | exact Nat.le_of_ble_eq_true rfl | (show _ ≤ 0; omega)⟩) hS (fun q _ h => h.elim) (fun q h => h.elim) (fun r35_3 u t H1 locs ht hvm hw hB hz1 hk1 hS => ?_)
        have hP := hP.ro hk1
        generalize H1 = H at hP hS ⊢
        subst hw
        refine lv_iload_n hx hb dX5_coreOf_38 rfl (lv_at hl 1 rfl) ?_
        refine mz_lt (tgt := 49) hx hb dX5_coreOf_39 (by decide) (fun c_39 => ?_) (fun c_39 => ?_)
        · exact KJ49 (crM NU rg (levM NU rg) ii) (by first | (simp only [crM, if_pos c_19, if_pos c_39]; done) | (try unfold crM; simp only [if_pos c_19, if_pos c_39]; done) | (try unfold crM; rfl) | rfl) _ _ _ hP hS (lv_sub hl [2, 0, 1, 3, 4] rfl)
        · refine lv_iload_n hx hb dX5_coreOf_42 rfl (lv_at hl 2 rfl) ?_
          refine lv_iconst (v := 1) hx hb dX5_coreOf_43 (by decide) ?_
          refine lv_iload hx hb dX5_coreOf_44 (lv_at hl 0 rfl) ?_
          refine lv_ishl hx hb dX5_coreOf_46 ?_
          refine lv_ior hx hb dX5_coreOf_47 ?_
          refine lv_istore_n (lv' := [(2, .int ((crM NU rg (levM NU rg) ii) ||| (1 <<< ((nI ii) &&& 31)))), (4, .int (nI ii)), (3, .int (levM NU rg)), (0, .ref m0), (1, .int (nI rg))]) hx hb dX5_coreOf_48 rfl hl (by decide) rfl (fun ls hl => ?_)
          exact KJ49 ((crM NU rg (levM NU rg) ii) ||| (1 <<< ((nI ii) &&& 31))) (by first | (simp only [crM, if_pos c_19, if_neg c_39]; done) | (try unfold crM; simp only [if_pos c_19, if_neg c_39]; done) | (try unfold crM; rfl) | rfl) _ _ _ hP hS (lv_sub hl [0, 1, 2, 3, 4] rfl)
  exact KL15 (12 + 1 - 0) 0 (by omega) (by omega) _ _ _ hP hS (lv_sub hl [0, 1, 2, 3, 4] rfl)
set_option maxHeartbeats 4000000 in
set_option maxRecDepth 100000 in
theorem kX5_mainOf (l : Launch) (E : ev_T) (m0 : Nat) (m1 : Nat) (m2 : Nat) (m3 : Nat) (m4 : Nat) (m5 : Nat) (m6 : Nat) (m7 : Nat) (m8 : Nat) (th : Int32) (md : Nat) (mr : Nat) (ms : Nat) (ml : Nat) (NU : Nat → Int32) (rg : Nat) (hrg : rg < 6) : Met l yX5_mainOf wsX5_mainOf ({ frames := 6, cells := 0, slots := 0, locals := 131 } : Room) (va_Pc [.ref m0, .int (nI rg)] (pr_R E [(m0, .inr (5, [.int th, .int (nI md), .int (nI mr), .ref m1, .ref m2, .ref m3, .ref m4, .ref m5, .int (nI ms), .ref m6, .int (nI ml), .ref m7, .ref m8])), (m1, .inl (E.2.1 0, 360, .inl NU))])) (va_Qi (fun (r : Int32) (_ : Unit) => r = manM NU rg) (fun _ _ => True) (fun _ : Nat => False)) 0 0 (fun _ : Nat => False) := by
  refine Met.ofW (cc := cX5_mainOf) (maxL := 8) (ret := (some .int)) (by decide) rfl ?_
  intro p e s m args below meth c s₁ B hml hv
  obtain ⟨rfl, hP, hE⟩ := hv
  have hx := B.exec
  have hb := B.bytes
  have hr := B.returns
  have hts := atoms_spec (ws := wsX5_mainOf) B.pre
  have hown : s.vm.findClass RX5 = some m.cls := findClass_of_methodNamed B.named
  have hlocks := B.notSynchronized
  refine mz_start (fun H locs hH hL => ?_)
  have hS : va_S (fun _ : Nat => False) s.heap H locs := by rw [hH, hL]; exact va_S.rf
  have f_9 := hts (.fieldLink RX5 9 "AvalancheDeskModel" "numbers" "[I") (by decide +kernel)
  have inX5 : ∀ w ∈ wsX50, w ∈ wsX5_mainOf := by decide +kernel
  have hl := lv_entry ([.ref m0, .int (nI rg)]) (n := 8) (Nat.le_of_ble_eq_true rfl)
  rw [lg_entry_eq]
  generalize (lg_sl ([.ref m0, .int (nI rg)]) ++ List.replicate (8 - (lg_sl ([.ref m0, .int (nI rg)])).length) Slot.unset).toArray = ls at hl ⊢
  have hl : lv_has ls 8 [(0, .ref m0), (1, .int (nI rg))] := hl
  have hP : va_P E.1 vwCl [(m0, .inr (5, [.int th, .int (nI md), .int (nI mr), .ref m1, .ref m2, .ref m3, .ref m4, .ref m5, .int (nI ms), .ref m6, .int (nI ml), .ref m7, .ref m8])), (m1, .inl (E.2.1 0, 360, .inl NU))] H := by rw [hH]; exact hP
  refine lv_iconst (v := 0) hx hb dX5_mainOf_0 (by decide) ?_
  refine lv_istore_n (lv' := [(2, .int 0), (0, .ref m0), (1, .int (nI rg))]) hx hb dX5_mainOf_1 rfl hl (by decide) rfl (fun ls hl => ?_)
  refine lv_iconst (v := (-1)) hx hb dX5_mainOf_2 (by decide) ?_
  refine lv_istore_n (lv' := [(3, .int (-1)), (2, .int 0), (0, .ref m0), (1, .int (nI rg))]) hx hb dX5_mainOf_3 rfl hl (by decide) rfl (fun ls hl => ?_)
  refine lv_aload_n hx hb dX5_mainOf_4 rfl (lv_at hl 2 rfl) ?_
  refine lv_iload_n hx hb dX5_mainOf_5 rfl (lv_at hl 3 rfl) ?_
  refine va_calli (va_runV (As := [.int (nI rg)]) (rest := []) ⟨hx, hb, hml, hown, hts⟩ (kX5_coreOf l E m0 m1 m2 m3 m4 m5 m6 m7 m8 th md mr ms ml NU rg (by first | omega | assumption | (intro k h; have := hz k h; omega))) (cwV 1 hts gX5_mainOf_X5_coreOf rfl rfl rfl (by decide +kernel) ⟨Nat.le_of_ble_eq_true rfl, Nat.le_of_ble_eq_true rfl⟩) ⟨fb_R, va_recv hE.1 hP (ci := 5) (q0 := 0) rfl rfl, fun U hU hW => ⟨rfl, (by rw [hU]; exact hP), hE.warm hW⟩⟩ rfl rfl hl.1 rfl (lv_room (Nat.le_of_ble_eq_true rfl)) dX5_mainOf_6 ⟨by first | exact Nat.le_of_ble_eq_true rfl | (show _ ≤ 0; omega), by first | exact Nat.le_of_ble_eq_true rfl | (show _ ≤ 0; omega)⟩) hS (fun q _ h => h.elim) (fun q h => h.elim) (fun r6_0 u t H1 locs ht hvm hw hB hz1 hk1 hS => ?_)
  have hP := hP.ro hk1
  generalize H1 = H at hP hS ⊢
  subst hw
  refine lv_istore (lv' := [(4, .int (corM NU rg)), (3, .int (-1)), (2, .int 0), (0, .ref m0), (1, .int (nI rg))]) hx hb dX5_mainOf_9 hl (by decide) rfl (fun ls hl => ?_)
  refine lv_iconst (v := 0) hx hb dX5_mainOf_11 (by decide) ?_
  refine lv_istore (lv' := [(5, .int 0), (4, .int (corM NU rg)), (3, .int (-1)), (2, .int 0), (0, .ref m0), (1, .int (nI rg))]) hx hb dX5_mainOf_12 hl (by decide) rfl (fun ls hl => ?_)
  have KL14 : ∀ (n14 ip : Nat), ip ≤ 4 → 4 < n14 + ip → ∀ (H : Heap) (locs : List Loc) (ls : Array Slot), va_P E.1 vwCl [(m0, .inr (5, [.int th, .int (nI md), .int (nI mr), .ref m1, .ref m2, .ref m3, .ref m4, .ref m5, .int (nI ms), .ref m6, .int (nI ml), .ref m7, .ref m8])), (m1, .inl (E.2.1 0, 360, .inl NU))] H → va_S (fun _ : Nat => False) s.heap H locs → lv_has ls 8 [(5, .int (nI ip)), (4, .int (corM NU rg)), (3, .int ((fpM NU rg (corM NU rg) ip).2)), (2, .int ((fpM NU rg (corM NU rg) ip).1)), (0, .ref m0), (1, .int (nI rg))] → W p l e (headSpec wsX5_mainOf ({ frames := 6, cells := 0, slots := 0, locals := 131 } : Room)).room s m [.ref m0, .int (nI rg)].toArray below meth c H locs 0 0 (MQ below (va_Qi (fun (r : Int32) (_ : Unit) => r = manM NU rg) (fun _ _ => True) (fun _ : Nat => False)) [.ref m0, .int (nI rg)].toArray s 0 0 (fun _ : Nat => False)) (F0 m 14 ls []) := by
    intro n14
    induction n14 with
    | zero => intro ip h1 h2; exact absurd h2 (by omega)
    | succ n14 ih14 =>
      intro ip hi14 hn14 H locs ls hP hS hl
      refine lv_iload hx hb dX5_mainOf_14 (lv_at hl 0 rfl) ?_
      refine lv_iconst (v := 4) hx hb dX5_mainOf_16 (by decide) ?_
      refine mz_geN hx hb ip 4 (tgt := 95) dX5_mainOf_17 (by decide) (by omega) (by omega) (fun c_17 => ?_) (fun c_17 => ?_)
      · have hq99 : ip = 4 := by omega
        subst ip
        refine lv_iload_n hx hb dX5_mainOf_95 rfl (lv_at hl 3 rfl) ?_
        exact W.iret (v := (fpM NU rg (corM NU rg) 4).1) hx hb hr (fun t ht hW => ⟨⟨_, (), rfl, (by first | rfl), trivial⟩, hS.F ht⟩) hS.2.2 dX5_mainOf_96
      · refine lv_iconst (v := 0) hx hb dX5_mainOf_20 (by decide) ?_
        refine lv_istore (lv' := [(6, .int 0), (5, .int (nI ip)), (4, .int (corM NU rg)), (3, .int ((fpM NU rg (corM NU rg) ip).2)), (2, .int ((fpM NU rg (corM NU rg) ip).1)), (0, .ref m0), (1, .int (nI rg))]) hx hb dX5_mainOf_21 hl (by decide) rfl (fun ls hl => ?_)
        refine lv_iconst (v := 0) hx hb dX5_mainOf_23 (by decide) ?_
        refine lv_istore (lv' := [(7, .int 0), (6, .int 0), (5, .int (nI ip)), (4, .int (corM NU rg)), (3, .int ((fpM NU rg (corM NU rg) ip).2)), (2, .int ((fpM NU rg (corM NU rg) ip).1)), (0, .ref m0), (1, .int (nI rg))]) hx hb dX5_mainOf_24 hl (by decide) rfl (fun ls hl => ?_)
        have KL26 : ∀ (n26 ii : Nat), ii ≤ 12 → 12 < n26 + ii → ∀ (H : Heap) (locs : List Loc) (ls : Array Slot), va_P E.1 vwCl [(m0, .inr (5, [.int th, .int (nI md), .int (nI mr), .ref m1, .ref m2, .ref m3, .ref m4, .ref m5, .int (nI ms), .ref m6, .int (nI ml), .ref m7, .ref m8])), (m1, .inl (E.2.1 0, 360, .inl NU))] H → va_S (fun _ : Nat => False) s.heap H locs → lv_has ls 8 [(7, .int (nI ii)), (6, .int (smM NU rg (corM NU rg) ip ii)), (5, .int (nI ip)), (4, .int (corM NU rg)), (3, .int ((fpM NU rg (corM NU rg) ip).2)), (2, .int ((fpM NU rg (corM NU rg) ip).1)), (0, .ref m0), (1, .int (nI rg))] → W p l e (headSpec wsX5_mainOf ({ frames := 6, cells := 0, slots := 0, locals := 131 } : Room)).room s m [.ref m0, .int (nI rg)].toArray below meth c H locs 0 0 (MQ below (va_Qi (fun (r : Int32) (_ : Unit) => r = manM NU rg) (fun _ _ => True) (fun _ : Nat => False)) [.ref m0, .int (nI rg)].toArray s 0 0 (fun _ : Nat => False)) (F0 m 26 ls []) := by
          intro n26
          induction n26 with
          | zero => intro ii h1 h2; exact absurd h2 (by omega)
          | succ n26 ih26 =>
            intro ii hi26 hn26 H locs ls hP hS hl
            refine lv_iload hx hb dX5_mainOf_26 (lv_at hl 0 rfl) ?_
            refine lv_bipush (v := 12) hx hb dX5_mainOf_28 (by decide) ?_
            refine mz_geN hx hb ii 12 (tgt := 74) dX5_mainOf_30 (by decide) (by omega) (by omega) (fun c_30 => ?_) (fun c_30 => ?_)
            · have hq99 : ii = 12 := by omega
              subst ii
              have KJ89 : ∀ (xb : Int32), xb = ((fpM NU rg (corM NU rg) (ip + 1)).1) → ∀ (xg : Int32), xg = ((fpM NU rg (corM NU rg) (ip + 1)).2) → ∀ (H : Heap) (locs : List Loc) (ls : Array Slot), va_P E.1 vwCl [(m0, .inr (5, [.int th, .int (nI md), .int (nI mr), .ref m1, .ref m2, .ref m3, .ref m4, .ref m5, .int (nI ms), .ref m6, .int (nI ml), .ref m7, .ref m8])), (m1, .inl (E.2.1 0, 360, .inl NU))] H → va_S (fun _ : Nat => False) s.heap H locs → lv_has ls 8 [(2, .int xb), (3, .int xg), (5, .int (nI ip)), (4, .int (corM NU rg)), (0, .ref m0), (1, .int (nI rg))] → W p l e (headSpec wsX5_mainOf ({ frames := 6, cells := 0, slots := 0, locals := 131 } : Room)).room s m [.ref m0, .int (nI rg)].toArray below meth c H locs 0 0 (MQ below (va_Qi (fun (r : Int32) (_ : Unit) => r = manM NU rg) (fun _ _ => True) (fun _ : Nat => False)) [.ref m0, .int (nI rg)].toArray s 0 0 (fun _ : Nat => False)) (F0 m 89 ls []) := by
                intro xb exb xg exg H locs ls hP hS hl
                subst exb
                subst exg
                refine mz_iinc (k := 2) (lv' := [(5, .int (nI (ip + 1))), (2, .int ((fpM NU rg (corM NU rg) (ip + 1)).1)), (3, .int ((fpM NU rg (corM NU rg) (ip + 1)).2)), (4, .int (corM NU rg)), (0, .ref m0), (1, .int (nI rg))]) hx hb ip 1 dX5_mainOf_89 hl rfl (by decide) rfl (fun ls hl => ?_)
                refine lv_goto (tgt := 14) hx hb dX5_mainOf_92 (by decide) ?_
                exact ih14 (ip + 1) (by omega) (by omega) _ _ _ hP hS (lv_sub hl [0, 3, 2, 1, 4, 5] rfl)
              refine lv_iload hx hb dX5_mainOf_74 (lv_at hl 1 rfl) ?_
              refine lv_iload_n hx hb dX5_mainOf_76 rfl (lv_at hl 4 rfl) ?_
              refine mz_gt (tgt := 83) hx hb dX5_mainOf_77 (by decide) (fun c_77 => ?_) (fun c_77 => ?_)
              · refine lv_iload hx hb dX5_mainOf_83 (lv_at hl 2 rfl) ?_
                refine lv_istore_n (lv' := [(2, .int (nI ip)), (7, .int (nI 12)), (6, .int (smM NU rg (corM NU rg) ip 12)), (5, .int (nI ip)), (4, .int (corM NU rg)), (3, .int ((fpM NU rg (corM NU rg) ip).2)), (0, .ref m0), (1, .int (nI rg))]) hx hb dX5_mainOf_85 rfl hl (by decide) rfl (fun ls hl => ?_)
                refine lv_iload hx hb dX5_mainOf_86 (lv_at hl 2 rfl) ?_
                refine lv_istore_n (lv' := [(3, .int (smM NU rg (corM NU rg) ip 12)), (2, .int (nI ip)), (7, .int (nI 12)), (6, .int (smM NU rg (corM NU rg) ip 12)), (5, .int (nI ip)), (4, .int (corM NU rg)), (0, .ref m0), (1, .int (nI rg))]) hx hb dX5_mainOf_88 rfl hl (by decide) rfl (fun ls hl => ?_)
                exact KJ89 (nI ip) (by first | (simp only [fpM, if_pos c_17, if_pos c_77]; done) | (try unfold fpM; simp only [if_pos c_17, if_pos c_77]; done) | (try unfold fpM; rfl) | rfl) (smM NU rg (corM NU rg) ip 12) (by first | (simp only [fpM, if_pos c_17, if_pos c_77]; done) | (try unfold fpM; simp only [if_pos c_17, if_pos c_77]; done) | (try unfold fpM; rfl) | rfl) _ _ _ hP hS (lv_sub hl [1, 0, 4, 5, 6, 7] rfl)
              · refine lv_goto (tgt := 89) hx hb dX5_mainOf_80 (by decide) ?_
                exact KJ89 ((fpM NU rg (corM NU rg) ip).1) (by first | (simp only [fpM, if_pos c_17, if_neg c_77]; done) | (try unfold fpM; simp only [if_pos c_17, if_neg c_77]; done) | (try unfold fpM; rfl) | rfl) ((fpM NU rg (corM NU rg) ip).2) (by first | (simp only [fpM, if_pos c_17, if_neg c_77]; done) | (try unfold fpM; simp only [if_pos c_17, if_neg c_77]; done) | (try unfold fpM; rfl) | rfl) _ _ _ hP hS (lv_sub hl [5, 4, 2, 3, 6, 7] rfl)
            · refine lv_iload hx hb dX5_mainOf_33 (lv_at hl 1 rfl) ?_
              have KJ65 : ∀ (xx : Int32), xx = (if bitF (corM NU rg) (nI ii) = 1 then prR (rwM NU ((12 * rg + ii) * 5)) ip else 0) → ∀ (H : Heap) (locs : List Loc) (ls : Array Slot), va_P E.1 vwCl [(m0, .inr (5, [.int th, .int (nI md), .int (nI mr), .ref m1, .ref m2, .ref m3, .ref m4, .ref m5, .int (nI ms), .ref m6, .int (nI ml), .ref m7, .ref m8])), (m1, .inl (E.2.1 0, 360, .inl NU))] H → va_S (fun _ : Nat => False) s.heap H locs → lv_has ls 8 [(7, .int (nI ii)), (6, .int (smM NU rg (corM NU rg) ip ii)), (5, .int (nI ip)), (4, .int (corM NU rg)), (3, .int ((fpM NU rg (corM NU rg) ip).2)), (2, .int ((fpM NU rg (corM NU rg) ip).1)), (0, .ref m0), (1, .int (nI rg))] → W p l e (headSpec wsX5_mainOf ({ frames := 6, cells := 0, slots := 0, locals := 131 } : Room)).room s m [.ref m0, .int (nI rg)].toArray below meth c H locs 0 0 (MQ below (va_Qi (fun (r : Int32) (_ : Unit) => r = manM NU rg) (fun _ _ => True) (fun _ : Nat => False)) [.ref m0, .int (nI rg)].toArray s 0 0 (fun _ : Nat => False)) (F0 m 65 ls [.int xx, .int (smM NU rg (corM NU rg) ip ii)]) := by
                intro xx exx H locs ls hP hS hl
                subst exx
                refine lv_iadd hx hb dX5_mainOf_65 ?_
                refine lv_istore (lv' := [(6, .int ((smM NU rg (corM NU rg) ip ii) + (if bitF (corM NU rg) (nI ii) = 1 then prR (rwM NU ((12 * rg + ii) * 5)) ip else 0))), (7, .int (nI ii)), (5, .int (nI ip)), (4, .int (corM NU rg)), (3, .int ((fpM NU rg (corM NU rg) ip).2)), (2, .int ((fpM NU rg (corM NU rg) ip).1)), (0, .ref m0), (1, .int (nI rg))]) hx hb dX5_mainOf_66 hl (by decide) rfl (fun ls hl => ?_)
                refine mz_iinc (k := 1) (lv' := [(7, .int (nI (ii + 1))), (6, .int ((smM NU rg (corM NU rg) ip ii) + (if bitF (corM NU rg) (nI ii) = 1 then prR (rwM NU ((12 * rg + ii) * 5)) ip else 0))), (5, .int (nI ip)), (4, .int (corM NU rg)), (3, .int ((fpM NU rg (corM NU rg) ip).2)), (2, .int ((fpM NU rg (corM NU rg) ip).1)), (0, .ref m0), (1, .int (nI rg))]) hx hb ii 1 dX5_mainOf_68 hl rfl (by decide) rfl (fun ls hl => ?_)
                refine lv_goto (tgt := 26) hx hb dX5_mainOf_71 (by decide) ?_
                exact ih26 (ii + 1) (by omega) (by omega) _ _ _ hP hS (lv_sub hl [0, 1, 2, 3, 4, 5, 6, 7] rfl)
              refine lv_iload hx hb dX5_mainOf_35 (lv_at hl 3 rfl) ?_
              refine lv_iload hx hb dX5_mainOf_37 (lv_at hl 0 rfl) ?_
              refine lv_ishr hx hb dX5_mainOf_39 ?_
              refine lv_iconst (v := 1) hx hb dX5_mainOf_40 (by decide) ?_
              refine lv_iand hx hb dX5_mainOf_41 ?_
              refine lv_iconst (v := 1) hx hb dX5_mainOf_42 (by decide) ?_
              refine lv_icmp_ne (tgt := 64) hx hb dX5_mainOf_43 (by decide) (fun c_43 => ?_) (fun c_43 => ?_)
              · refine lv_iconst (v := 0) hx hb dX5_mainOf_64 (by decide) ?_
                exact KJ65 0 (by first | (simp only [bitF, if_pos c_17, if_pos c_30, if_neg c_43]; done) | (try unfold bitF; simp only [if_pos c_17, if_pos c_30, if_neg c_43]; done) | (try unfold bitF; rfl) | rfl) _ _ _ hP hS (lv_sub hl [0, 1, 2, 3, 4, 5, 6, 7] rfl)
              · refine lv_aload_n hx hb dX5_mainOf_46 rfl (lv_at hl 6 rfl) ?_
                refine va_get (D := E.1) (ci := 5) (v := .ref m1) (C := RX5) (T := TX5) (N := 13) hx hb hts inX5 hown hE.1 hP 0 rfl rfl 3 (by decide) f_9 (fun _ h9 => h9) rfl dX5_mainOf_47 ?_
                refine lv_iload_n hx hb dX5_mainOf_50 rfl (lv_at hl 7 rfl) ?_
                refine lv_iload hx hb dX5_mainOf_51 (lv_at hl 0 rfl) ?_
                refine va_calli (va_runS (As := [.int (nI rg), .int (nI ii)]) (rest := [.ref m1, .int (smM NU rg (corM NU rg) ip ii)]) ⟨hx, hb, hml, hown, hts⟩ (kX5_at l E rg ii) (va_cwS 2 hts gX5_mainOf_X5_at rfl rfl rfl (by decide +kernel) ⟨Nat.le_of_ble_eq_true rfl, Nat.le_of_ble_eq_true rfl⟩) ⟨fb_0, fun U hU hW => ⟨rfl, trivial⟩⟩ rfl rfl hl.1 rfl (lv_room (Nat.le_of_ble_eq_true rfl)) dX5_mainOf_53 ⟨by first | exact Nat.le_of_ble_eq_true rfl | (show _ ≤ 0; omega), by first | exact Nat.le_of_ble_eq_true rfl | (show _ ≤ 0; omega)⟩) hS (fun q _ h => h.elim) (fun q h => h.elim) (fun r53_1 u t H1 locs ht hvm hw hB hz1 hk1 hS => ?_)
                have hP := hP.ro hk1
                generalize H1 = H at hP hS ⊢
                subst hw
                refine lv_iload hx hb dX5_mainOf_56 (lv_at hl 2 rfl) ?_
                refine va_calli (va_runS (As := [.ref m1, .int (nI ((12 * rg + ii) * 5)), .int (nI ip)]) (rest := [.int (smM NU rg (corM NU rg) ip ii)]) ⟨hx, hb, hml, hown, hts⟩ (kX5_problemOf l E m1 360 NU ((12 * rg + ii) * 5) ip (by first | omega | assumption | (intro k h; have := hz k h; omega)) (by first | omega | assumption | (intro k h; have := hz k h; omega)) (by first | omega | assumption | (intro k h; have := hz k h; omega))) (va_cwS 3 hts gX5_mainOf_X5_problemOf rfl rfl rfl (by decide +kernel) ⟨Nat.le_of_ble_eq_true rfl, Nat.le_of_ble_eq_true rfl⟩) ⟨fb_R, fun U hU hW => ⟨rfl, (by rw [hU]; exact hP.sub (ws' := [(m1, .inl (E.2.1 0, 360, .inl NU))]) [1] rfl), hE.warm hW⟩⟩ rfl rfl hl.1 rfl (lv_room (Nat.le_of_ble_eq_true rfl)) dX5_mainOf_58 ⟨by first | exact Nat.le_of_ble_eq_true rfl | (show _ ≤ 0; omega), by first | exact Nat.le_of_ble_eq_true rfl | (show _ ≤ 0; omega)⟩) hS (fun q _ h => h.elim) (fun q h => h.elim) (fun r58_2 u t H1 locs ht hvm hw hB hz1 hk1 hS => ?_)
                have hP := hP.ro hk1
                generalize H1 = H at hP hS ⊢
                subst hw
                refine lv_goto (tgt := 65) hx hb dX5_mainOf_61 (by decide) ?_
                exact KJ65 (prR (rwM NU ((12 * rg + ii) * 5)) ip) (by first | (simp only [bitF, if_pos c_17, if_pos c_30, if_pos c_43]; done) | (try unfold bitF; simp only [if_pos c_17, if_pos c_30, if_pos c_43]; done) | (try unfold bitF; rfl) | rfl) _ _ _ hP hS (lv_sub hl [0, 1, 2, 3, 4, 5, 6, 7] rfl)
        exact KL26 (12 + 1 - 0) 0 (by omega) (by omega) _ _ _ hP hS (lv_sub hl [0, 1, 2, 3, 4, 5, 6, 7] rfl)
  exact KL14 (4 + 1 - 0) 0 (by omega) (by omega) _ _ _ hP hS (lv_sub hl [0, 1, 2, 3, 4, 5] rfl)
set_option maxHeartbeats 4000000 in
set_option maxRecDepth 100000 in
theorem kX5_activityOf (l : Launch) (E : ev_T) (m0 : Nat) (m1 : Nat) (m2 : Nat) (m3 : Nat) (m4 : Nat) (m5 : Nat) (m6 : Nat) (m7 : Nat) (m8 : Nat) (th : Int32) (md : Nat) (mr : Nat) (ms : Nat) (ml : Nat) (AVv : Nat → Int32) (dy : Nat) (rg : Nat) (hms : ms ≤ 200) (hdy : dy ≤ 60) (hrg : rg < 6) : Met l yX5_activityOf wsX5_activityOf ({ frames := 0, cells := 0, slots := 0, locals := 0 } : Room) (va_Pc [.ref m0, .int (nI dy), .int (nI rg)] (pr_R E [(m0, .inr (5, [.int th, .int (nI md), .int (nI mr), .ref m1, .ref m2, .ref m3, .ref m4, .ref m5, .int (nI ms), .ref m6, .int (nI ml), .ref m7, .ref m8])), (m6, .inl (E.2.1 0, 800, .inl AVv))])) (va_Qi (fun (r : Int32) (_ : Unit) => r = acM AVv dy rg ms) (fun _ _ => True) (fun _ : Nat => False)) 0 0 (fun _ : Nat => False) := by
  refine Met.ofW (cc := cX5_activityOf) (maxL := 5) (ret := (some .int)) (by decide) rfl ?_
  intro p e s m args below meth c s₁ B hml hv
  obtain ⟨rfl, hP, hE⟩ := hv
  have hx := B.exec
  have hb := B.bytes
  have hr := B.returns
  have hts := atoms_spec (ws := wsX5_activityOf) B.pre
  have hown : s.vm.findClass RX5 = some m.cls := findClass_of_methodNamed B.named
  have hlocks := B.notSynchronized
  refine mz_start (fun H locs hH hL => ?_)
  have hS : va_S (fun _ : Nat => False) s.heap H locs := by rw [hH, hL]; exact va_S.rf
  have f_130 := hts (.fieldLink RX5 130 "AvalancheDeskModel" "seen" "I") (by decide +kernel)
  have inX5 : ∀ w ∈ wsX50, w ∈ wsX5_activityOf := by decide +kernel
  have f_26 := hts (.fieldLink RX5 26 "AvalancheDeskModel" "avalanches" "[I") (by decide +kernel)
  have hl := lv_entry ([.ref m0, .int (nI dy), .int (nI rg)]) (n := 5) (Nat.le_of_ble_eq_true rfl)
  rw [lg_entry_eq]
  generalize (lg_sl ([.ref m0, .int (nI dy), .int (nI rg)]) ++ List.replicate (5 - (lg_sl ([.ref m0, .int (nI dy), .int (nI rg)])).length) Slot.unset).toArray = ls at hl ⊢
  have hl : lv_has ls 5 [(0, .ref m0), (1, .int (nI dy)), (2, .int (nI rg))] := hl
  have hP : va_P E.1 vwCl [(m0, .inr (5, [.int th, .int (nI md), .int (nI mr), .ref m1, .ref m2, .ref m3, .ref m4, .ref m5, .int (nI ms), .ref m6, .int (nI ml), .ref m7, .ref m8])), (m6, .inl (E.2.1 0, 800, .inl AVv))] H := by rw [hH]; exact hP
  refine lv_iconst (v := 0) hx hb dX5_activityOf_0 (by decide) ?_
  refine lv_istore_n (lv' := [(3, .int 0), (0, .ref m0), (1, .int (nI dy)), (2, .int (nI rg))]) hx hb dX5_activityOf_1 rfl hl (by decide) rfl (fun ls hl => ?_)
  refine lv_iconst (v := 0) hx hb dX5_activityOf_2 (by decide) ?_
  refine lv_istore (lv' := [(4, .int 0), (3, .int 0), (0, .ref m0), (1, .int (nI dy)), (2, .int (nI rg))]) hx hb dX5_activityOf_3 hl (by decide) rfl (fun ls hl => ?_)
  have KL5 : ∀ (n5 ii : Nat), ii ≤ ms → ms < n5 + ii → ∀ (H : Heap) (locs : List Loc) (ls : Array Slot), va_P E.1 vwCl [(m0, .inr (5, [.int th, .int (nI md), .int (nI mr), .ref m1, .ref m2, .ref m3, .ref m4, .ref m5, .int (nI ms), .ref m6, .int (nI ml), .ref m7, .ref m8])), (m6, .inl (E.2.1 0, 800, .inl AVv))] H → va_S (fun _ : Nat => False) s.heap H locs → lv_has ls 5 [(4, .int (nI ii)), (3, .int (acM AVv dy rg ii)), (0, .ref m0), (1, .int (nI dy)), (2, .int (nI rg))] → W p l e (headSpec wsX5_activityOf ({ frames := 0, cells := 0, slots := 0, locals := 0 } : Room)).room s m [.ref m0, .int (nI dy), .int (nI rg)].toArray below meth c H locs 0 0 (MQ below (va_Qi (fun (r : Int32) (_ : Unit) => r = acM AVv dy rg ms) (fun _ _ => True) (fun _ : Nat => False)) [.ref m0, .int (nI dy), .int (nI rg)].toArray s 0 0 (fun _ : Nat => False)) (F0 m 5 ls []) := by
    intro n5
    induction n5 with
    | zero => intro ii h1 h2; exact absurd h2 (by omega)
    | succ n5 ih5 =>
      intro ii hi5 hn5 H locs ls hP hS hl
      refine lv_iload hx hb dX5_activityOf_5 (lv_at hl 0 rfl) ?_
      refine lv_aload_n hx hb dX5_activityOf_7 rfl (lv_at hl 2 rfl) ?_
      refine va_get (D := E.1) (ci := 5) (v := .int (nI ms)) (C := RX5) (T := TX5) (N := 13) hx hb hts inX5 hown hE.1 hP 0 rfl rfl 8 (by decide) f_130 (fun _ h9 => h9) rfl dX5_activityOf_8 ?_
      refine mz_geN hx hb ii ms (tgt := 74) dX5_activityOf_11 (by decide) (by omega) (by omega) (fun c_11 => ?_) (fun c_11 => ?_)
      · have hq99 : ii = ms := by omega
        subst ii
        refine lv_iload_n hx hb dX5_activityOf_74 rfl (lv_at hl 1 rfl) ?_
        exact W.iret (v := acM AVv dy rg ms) hx hb hr (fun t ht hW => ⟨⟨_, (), rfl, (by first | rfl), trivial⟩, hS.F ht⟩) hS.2.2 dX5_activityOf_75
      · have KJ68 : ∀ (xx : Int32), xx = (acM AVv dy rg (ii + 1)) → ∀ (H : Heap) (locs : List Loc) (ls : Array Slot), va_P E.1 vwCl [(m0, .inr (5, [.int th, .int (nI md), .int (nI mr), .ref m1, .ref m2, .ref m3, .ref m4, .ref m5, .int (nI ms), .ref m6, .int (nI ml), .ref m7, .ref m8])), (m6, .inl (E.2.1 0, 800, .inl AVv))] H → va_S (fun _ : Nat => False) s.heap H locs → lv_has ls 5 [(3, .int xx), (4, .int (nI ii)), (0, .ref m0), (1, .int (nI dy)), (2, .int (nI rg))] → W p l e (headSpec wsX5_activityOf ({ frames := 0, cells := 0, slots := 0, locals := 0 } : Room)).room s m [.ref m0, .int (nI dy), .int (nI rg)].toArray below meth c H locs 0 0 (MQ below (va_Qi (fun (r : Int32) (_ : Unit) => r = acM AVv dy rg ms) (fun _ _ => True) (fun _ : Nat => False)) [.ref m0, .int (nI dy), .int (nI rg)].toArray s 0 0 (fun _ : Nat => False)) (F0 m 68 ls []) := by
          intro xx exx H locs ls hP hS hl
          subst exx
          refine mz_iinc (k := 1) (lv' := [(4, .int (nI (ii + 1))), (3, .int (acM AVv dy rg (ii + 1))), (0, .ref m0), (1, .int (nI dy)), (2, .int (nI rg))]) hx hb ii 1 dX5_activityOf_68 hl rfl (by decide) rfl (fun ls hl => ?_)
          refine lv_goto (tgt := 5) hx hb dX5_activityOf_71 (by decide) ?_
          exact ih5 (ii + 1) (by omega) (by omega) _ _ _ hP hS (lv_sub hl [0, 1, 2, 3, 4] rfl)
        refine lv_aload_n hx hb dX5_activityOf_14 rfl (lv_at hl 2 rfl) ?_
        refine va_get (D := E.1) (ci := 5) (v := .ref m6) (C := RX5) (T := TX5) (N := 13) hx hb hts inX5 hown hE.1 hP 0 rfl rfl 9 (by decide) f_26 (fun _ h9 => h9) rfl dX5_activityOf_15 ?_
        refine lv_iconst (v := 4) hx hb dX5_activityOf_18 (by decide) ?_
        refine lv_iload hx hb dX5_activityOf_19 (lv_at hl 0 rfl) ?_
        refine mz_mulN hx hb 4 ii dX5_activityOf_21 ?_
        refine mz_ild hx hb hE.1 hP 1 0 (f := AVv) (n := 800) rfl rfl (4 * ii) (by omega) (by omega) dX5_activityOf_22 ?_
        refine lv_iload_n hx hb dX5_activityOf_23 rfl (lv_at hl 3 rfl) ?_
        refine lv_icmp_ne (tgt := 68) hx hb dX5_activityOf_24 (by decide) (fun c_24 => ?_) (fun c_24 => ?_)
        · exact KJ68 (acM AVv dy rg ii) (by first | (simp only [acM, if_pos c_11, if_neg c_24]; done) | (try unfold acM; simp only [if_pos c_11, if_neg c_24]; done) | (try unfold acM; rfl) | rfl) _ _ _ hP hS (lv_sub hl [1, 0, 2, 3, 4] rfl)
        · refine lv_aload_n hx hb dX5_activityOf_27 rfl (lv_at hl 2 rfl) ?_
          refine va_get (D := E.1) (ci := 5) (v := .ref m6) (C := RX5) (T := TX5) (N := 13) hx hb hts inX5 hown hE.1 hP 0 rfl rfl 9 (by decide) f_26 (fun _ h9 => h9) rfl dX5_activityOf_28 ?_
          refine lv_iconst (v := 4) hx hb dX5_activityOf_31 (by decide) ?_
          refine lv_iload hx hb dX5_activityOf_32 (lv_at hl 0 rfl) ?_
          refine mz_mulN hx hb 4 ii dX5_activityOf_34 ?_
          refine lv_iconst (v := 1) hx hb dX5_activityOf_35 (by decide) ?_
          refine mz_addN hx hb (4 * ii) 1 dX5_activityOf_36 ?_
          refine mz_ild hx hb hE.1 hP 1 0 (f := AVv) (n := 800) rfl rfl ((4 * ii) + 1) (by omega) (by omega) dX5_activityOf_37 ?_
          refine lv_iload_n hx hb dX5_activityOf_38 rfl (lv_at hl 4 rfl) ?_
          refine lv_icmp_ne (tgt := 68) hx hb dX5_activityOf_39 (by decide) (fun c_39 => ?_) (fun c_39 => ?_)
          · exact KJ68 (acM AVv dy rg ii) (by first | (simp only [acM, if_pos c_11, if_pos c_24, if_neg c_39]; done) | (try unfold acM; simp only [if_pos c_11, if_pos c_24, if_neg c_39]; done) | (try unfold acM; rfl) | rfl) _ _ _ hP hS (lv_sub hl [1, 0, 2, 3, 4] rfl)
          · refine lv_iload_n hx hb dX5_activityOf_42 rfl (lv_at hl 1 rfl) ?_
            refine lv_aload_n hx hb dX5_activityOf_43 rfl (lv_at hl 2 rfl) ?_
            refine va_get (D := E.1) (ci := 5) (v := .ref m6) (C := RX5) (T := TX5) (N := 13) hx hb hts inX5 hown hE.1 hP 0 rfl rfl 9 (by decide) f_26 (fun _ h9 => h9) rfl dX5_activityOf_44 ?_
            refine lv_iconst (v := 4) hx hb dX5_activityOf_47 (by decide) ?_
            refine lv_iload hx hb dX5_activityOf_48 (lv_at hl 0 rfl) ?_
            refine mz_mulN hx hb 4 ii dX5_activityOf_50 ?_
            refine lv_iconst (v := 3) hx hb dX5_activityOf_51 (by decide) ?_
            refine mz_addN hx hb (4 * ii) 3 dX5_activityOf_52 ?_
            refine mz_ild hx hb hE.1 hP 1 0 (f := AVv) (n := 800) rfl rfl ((4 * ii) + 3) (by omega) (by omega) dX5_activityOf_53 ?_
            refine lv_aload_n hx hb dX5_activityOf_54 rfl (lv_at hl 2 rfl) ?_
            refine va_get (D := E.1) (ci := 5) (v := .ref m6) (C := RX5) (T := TX5) (N := 13) hx hb hts inX5 hown hE.1 hP 0 rfl rfl 9 (by decide) f_26 (fun _ h9 => h9) rfl dX5_activityOf_55 ?_
            refine lv_iconst (v := 4) hx hb dX5_activityOf_58 (by decide) ?_
            refine lv_iload hx hb dX5_activityOf_59 (lv_at hl 0 rfl) ?_
            refine mz_mulN hx hb 4 ii dX5_activityOf_61 ?_
            refine lv_iconst (v := 3) hx hb dX5_activityOf_62 (by decide) ?_
            refine mz_addN hx hb (4 * ii) 3 dX5_activityOf_63 ?_
            refine mz_ild hx hb hE.1 hP 1 0 (f := AVv) (n := 800) rfl rfl ((4 * ii) + 3) (by omega) (by omega) dX5_activityOf_64 ?_
            refine lv_imul hx hb dX5_activityOf_65 ?_
            refine lv_iadd hx hb dX5_activityOf_66 ?_
            refine lv_istore_n (lv' := [(3, .int ((acM AVv dy rg ii) + ((AVv ((4 * ii) + 3)) * (AVv ((4 * ii) + 3))))), (4, .int (nI ii)), (0, .ref m0), (1, .int (nI dy)), (2, .int (nI rg))]) hx hb dX5_activityOf_67 rfl hl (by decide) rfl (fun ls hl => ?_)
            exact KJ68 ((acM AVv dy rg ii) + ((AVv ((4 * ii) + 3)) * (AVv ((4 * ii) + 3)))) (by first | (simp only [acM, if_pos c_11, if_pos c_24, if_pos c_39]; done) | (try unfold acM; simp only [if_pos c_11, if_pos c_24, if_pos c_39]; done) | (try unfold acM; rfl) | rfl) _ _ _ hP hS (lv_sub hl [0, 1, 2, 3, 4] rfl)
  exact KL5 (ms + 1 - 0) 0 (by omega) (by omega) _ _ _ hP hS (lv_sub hl [0, 1, 2, 3, 4] rfl)
set_option maxHeartbeats 4000000 in
set_option maxRecDepth 100000 in
theorem kX5_how (l : Launch) (E : ev_T) (ln : Nat) (ac : Int32) (sz : Nat) (h1 : 1 ≤ ln) (h2 : ln ≤ 5) : Met l yX5_how wsX5_how ({ frames := 0, cells := 2, slots := 10, locals := 0 } : Room) (va_Pc [.int (nI ln), .int ac] (fun U => U.heap.size = sz ∧ pr_R E [] U)) (va_Qi (fun (r : Int32) (_ : Unit) => r = howF ln ac) (fun _ _ => True) (fun q : Nat => sz ≤ q)) 2 10 (fun q : Nat => sz ≤ q) := by
  refine Met.ofW (cc := cX5_how) (maxL := 4) (ret := (some .int)) (by decide) rfl ?_
  intro p e s m args below meth c s₁ B hml hv
  obtain ⟨rfl, hsz, hP, hE⟩ := hv
  have hx := B.exec
  have hb := B.bytes
  have hr := B.returns
  have hts := atoms_spec (ws := wsX5_how) B.pre
  have hown : s.vm.findClass RX5 = some m.cls := findClass_of_methodNamed B.named
  have hlocks := B.notSynchronized
  subst hsz
  have hA : ∀ q : Nat, s.heap.size ≤ q → (fun q : Nat => s.heap.size ≤ q) q := fun _ h => h
  have hD : va_D (fun q : Nat => s.heap.size ≤ q) [] := ⟨fun i j p q h => by simp at h, fun k q h => by simp at h⟩
  refine mz_start (fun H locs hH hL => ?_)
  have hS : va_S (fun q : Nat => s.heap.size ≤ q) s.heap H locs := by rw [hH, hL]; exact va_S.rf
  have ac_int := hts (.arrayClass .int) (by decide +kernel)
  have kc138 := hts (.constant RX5 138 (2147483647)) (by decide +kernel)
  have hl := lv_entry ([.int (nI ln), .int ac]) (n := 4) (Nat.le_of_ble_eq_true rfl)
  rw [lg_entry_eq]
  generalize (lg_sl ([.int (nI ln), .int ac]) ++ List.replicate (4 - (lg_sl ([.int (nI ln), .int ac])).length) Slot.unset).toArray = ls at hl ⊢
  have hl : lv_has ls 4 [(0, .int (nI ln)), (1, .int ac)] := hl
  have hP : va_P E.1 vwCl [] H := by rw [hH]; exact hP
  refine lv_iconst (v := 5) hx hb dX5_how_0 (by decide) ?_
  refine va_newa (atype := .int) (ty := .int) (a0 := (5, .inl (fun _ => 0))) (N' := 5) hx hb ac_int rfl hE.1 hP hD hS hA (fun _ => rfl) (by decide) (by decide) (by decide) (by first | exact Nat.le_of_ble_eq_true rfl | (show _ ≤ 2; omega)) (by first | exact Nat.le_of_ble_eq_true rfl | (show _ ≤ 10; omega)) dX5_how_1 (fun a1_0 cA9 H hK9 hP hD hS => ?_)
  obtain rfl : E.2.1 0 = cA9 := ev_same0 hK9
  have hP : va_P E.1 vwCl [(a1_0, .inl (E.2.1 0, 5, .inl (fun _ => 0)))] H := hP
  have hD : va_D _ [(a1_0, .inl (E.2.1 0, 5, .inl (fun _ => 0)))] := hD
  refine lv_dup hx hb dX5_how_3 rfl ?_
  refine lv_iconst (v := 0) hx hb dX5_how_4 (by decide) ?_
  refine lv_iconst (v := 0) hx hb dX5_how_5 (by decide) ?_
  refine mz_ist hx hb hE.1 hP hD hS 0 0 (f := fun _ => 0) (n := 5) rfl rfl 0 (by omega) (by omega) dX5_how_6 (fun H locs hP hD hS => ?_)
  have hP : va_P E.1 vwCl [(a1_0, .inl (E.2.1 0, 5, .inl (upd (fun _ => 0) 0 0)))] H := hP
  refine lv_dup hx hb dX5_how_7 rfl ?_
  refine lv_iconst (v := 1) hx hb dX5_how_8 (by decide) ?_
  refine lv_iconst (v := 0) hx hb dX5_how_9 (by decide) ?_
  refine mz_ist hx hb hE.1 hP hD hS 0 0 (f := upd (fun _ => 0) 0 0) (n := 5) rfl rfl 1 (by omega) (by omega) dX5_how_10 (fun H locs hP hD hS => ?_)
  have hP : va_P E.1 vwCl [(a1_0, .inl (E.2.1 0, 5, .inl (upd (upd (fun _ => 0) 0 0) 1 0)))] H := hP
  refine lv_dup hx hb dX5_how_11 rfl ?_
  refine lv_iconst (v := 2) hx hb dX5_how_12 (by decide) ?_
  refine lv_iconst (v := 4) hx hb dX5_how_13 (by decide) ?_
  refine mz_ist hx hb hE.1 hP hD hS 0 0 (f := upd (upd (fun _ => 0) 0 0) 1 0) (n := 5) rfl rfl 2 (by omega) (by omega) dX5_how_14 (fun H locs hP hD hS => ?_)
  have hP : va_P E.1 vwCl [(a1_0, .inl (E.2.1 0, 5, .inl (upd (upd (upd (fun _ => 0) 0 0) 1 0) 2 4)))] H := hP
  refine lv_dup hx hb dX5_how_15 rfl ?_
  refine lv_iconst (v := 3) hx hb dX5_how_16 (by decide) ?_
  refine lv_bipush (v := 25) hx hb dX5_how_17 (by decide) ?_
  refine mz_ist hx hb hE.1 hP hD hS 0 0 (f := upd (upd (upd (fun _ => 0) 0 0) 1 0) 2 4) (n := 5) rfl rfl 3 (by omega) (by omega) dX5_how_19 (fun H locs hP hD hS => ?_)
  have hP : va_P E.1 vwCl [(a1_0, .inl (E.2.1 0, 5, .inl (upd (upd (upd (upd (fun _ => 0) 0 0) 1 0) 2 4) 3 25)))] H := hP
  refine lv_dup hx hb dX5_how_20 rfl ?_
  refine lv_iconst (v := 4) hx hb dX5_how_21 (by decide) ?_
  refine lv_bipush (v := 80) hx hb dX5_how_22 (by decide) ?_
  refine mz_ist hx hb hE.1 hP hD hS 0 0 (f := upd (upd (upd (upd (fun _ => 0) 0 0) 1 0) 2 4) 3 25) (n := 5) rfl rfl 4 (by omega) (by omega) dX5_how_24 (fun H locs hP hD hS => ?_)
  have hP : va_P E.1 vwCl [(a1_0, .inl (E.2.1 0, 5, .inl (upd (upd (upd (upd (upd (fun _ => 0) 0 0) 1 0) 2 4) 3 25) 4 80)))] H := hP
  refine lv_astore_n (lv' := [(2, .ref a1_0), (0, .int (nI ln)), (1, .int ac)]) hx hb dX5_how_25 rfl hl (by decide) rfl (fun ls hl => ?_)
  refine lv_iconst (v := 5) hx hb dX5_how_26 (by decide) ?_
  refine va_newa (atype := .int) (ty := .int) (a0 := (5, .inl (fun _ => 0))) (N' := 5) hx hb ac_int rfl hE.1 hP hD hS hA (fun _ => rfl) (by decide) (by decide) (by decide) (by first | exact Nat.le_of_ble_eq_true rfl | (show _ ≤ 2; omega)) (by first | exact Nat.le_of_ble_eq_true rfl | (show _ ≤ 10; omega)) dX5_how_27 (fun a27_1 cA9 H hK9 hP hD hS => ?_)
  obtain rfl : E.2.1 0 = cA9 := ev_same0 hK9
  have hP : va_P E.1 vwCl [(a1_0, .inl (E.2.1 0, 5, .inl (upd (upd (upd (upd (upd (fun _ => 0) 0 0) 1 0) 2 4) 3 25) 4 80))), (a27_1, .inl (E.2.1 0, 5, .inl (fun _ => 0)))] H := hP
  have hD : va_D _ [(a1_0, .inl (E.2.1 0, 5, .inl (upd (upd (upd (upd (upd (fun _ => 0) 0 0) 1 0) 2 4) 3 25) 4 80))), (a27_1, .inl (E.2.1 0, 5, .inl (fun _ => 0)))] := hD
  refine lv_dup hx hb dX5_how_29 rfl ?_
  refine lv_iconst (v := 0) hx hb dX5_how_30 (by decide) ?_
  refine lv_iconst (v := 1) hx hb dX5_how_31 (by decide) ?_
  refine mz_ist hx hb hE.1 hP hD hS 1 0 (f := fun _ => 0) (n := 5) rfl rfl 0 (by omega) (by omega) dX5_how_32 (fun H locs hP hD hS => ?_)
  have hP : va_P E.1 vwCl [(a1_0, .inl (E.2.1 0, 5, .inl (upd (upd (upd (upd (upd (fun _ => 0) 0 0) 1 0) 2 4) 3 25) 4 80))), (a27_1, .inl (E.2.1 0, 5, .inl (upd (fun _ => 0) 0 1)))] H := hP
  refine lv_dup hx hb dX5_how_33 rfl ?_
  refine lv_iconst (v := 1) hx hb dX5_how_34 (by decide) ?_
  refine lv_bipush (v := 9) hx hb dX5_how_35 (by decide) ?_
  refine mz_ist hx hb hE.1 hP hD hS 1 0 (f := upd (fun _ => 0) 0 1) (n := 5) rfl rfl 1 (by omega) (by omega) dX5_how_37 (fun H locs hP hD hS => ?_)
  have hP : va_P E.1 vwCl [(a1_0, .inl (E.2.1 0, 5, .inl (upd (upd (upd (upd (upd (fun _ => 0) 0 0) 1 0) 2 4) 3 25) 4 80))), (a27_1, .inl (E.2.1 0, 5, .inl (upd (upd (fun _ => 0) 0 1) 1 9)))] H := hP
  refine lv_dup hx hb dX5_how_38 rfl ?_
  refine lv_iconst (v := 2) hx hb dX5_how_39 (by decide) ?_
  refine lv_bipush (v := 40) hx hb dX5_how_40 (by decide) ?_
  refine mz_ist hx hb hE.1 hP hD hS 1 0 (f := upd (upd (fun _ => 0) 0 1) 1 9) (n := 5) rfl rfl 2 (by omega) (by omega) dX5_how_42 (fun H locs hP hD hS => ?_)
  have hP : va_P E.1 vwCl [(a1_0, .inl (E.2.1 0, 5, .inl (upd (upd (upd (upd (upd (fun _ => 0) 0 0) 1 0) 2 4) 3 25) 4 80))), (a27_1, .inl (E.2.1 0, 5, .inl (upd (upd (upd (fun _ => 0) 0 1) 1 9) 2 40)))] H := hP
  refine lv_dup hx hb dX5_how_43 rfl ?_
  refine lv_iconst (v := 3) hx hb dX5_how_44 (by decide) ?_
  refine lv_bipush (v := 120) hx hb dX5_how_45 (by decide) ?_
  refine mz_ist hx hb hE.1 hP hD hS 1 0 (f := upd (upd (upd (fun _ => 0) 0 1) 1 9) 2 40) (n := 5) rfl rfl 3 (by omega) (by omega) dX5_how_47 (fun H locs hP hD hS => ?_)
  have hP : va_P E.1 vwCl [(a1_0, .inl (E.2.1 0, 5, .inl (upd (upd (upd (upd (upd (fun _ => 0) 0 0) 1 0) 2 4) 3 25) 4 80))), (a27_1, .inl (E.2.1 0, 5, .inl (upd (upd (upd (upd (fun _ => 0) 0 1) 1 9) 2 40) 3 120)))] H := hP
  refine lv_dup hx hb dX5_how_48 rfl ?_
  refine lv_iconst (v := 4) hx hb dX5_how_49 (by decide) ?_
  refine lv_ldc hx hb hown kc138 dX5_how_50 ?_
  refine mz_ist hx hb hE.1 hP hD hS 1 0 (f := upd (upd (upd (upd (fun _ => 0) 0 1) 1 9) 2 40) 3 120) (n := 5) rfl rfl 4 (by omega) (by omega) dX5_how_52 (fun H locs hP hD hS => ?_)
  have hP : va_P E.1 vwCl [(a1_0, .inl (E.2.1 0, 5, .inl (upd (upd (upd (upd (upd (fun _ => 0) 0 0) 1 0) 2 4) 3 25) 4 80))), (a27_1, .inl (E.2.1 0, 5, .inl (upd (upd (upd (upd (upd (fun _ => 0) 0 1) 1 9) 2 40) 3 120) 4 2147483647)))] H := hP
  refine lv_astore_n (lv' := [(3, .ref a27_1), (2, .ref a1_0), (0, .int (nI ln)), (1, .int ac)]) hx hb dX5_how_53 rfl hl (by decide) rfl (fun ls hl => ?_)
  rcases (show ln = 1 ∨ ln = 2 ∨ ln = 3 ∨ ln = 4 ∨ ln = 5 from by omega) with rfl | rfl | rfl | rfl | rfl
  · refine lv_iload_n hx hb dX5_how_54 rfl (lv_at hl 3 rfl) ?_
    refine lv_aload_n hx hb dX5_how_55 rfl (lv_at hl 1 rfl) ?_
    refine lv_iload_n hx hb dX5_how_56 rfl (lv_at hl 2 rfl) ?_
    refine lv_iconst (v := 1) hx hb dX5_how_57 (by decide) ?_
    refine lv_isub hx hb dX5_how_58 ?_
    refine mz_fold (y := 0) (by decide) ?_
    refine mz_ild hx hb hE.1 hP 0 0 (f := upd (upd (upd (upd (upd (fun _ => 0) 0 0) 1 0) 2 4) 3 25) 4 80) (n := 5) rfl rfl 0 (by omega) (by omega) dX5_how_59 ?_
    refine mz_fold (y := 0) rfl ?_
    refine mz_ge (tgt := 67) hx hb dX5_how_60 (by decide) (fun c_60 => ?_) (fun c_60 => ?_)
    · refine lv_iload_n hx hb dX5_how_67 rfl (lv_at hl 3 rfl) ?_
      refine lv_aload_n hx hb dX5_how_68 rfl (lv_at hl 0 rfl) ?_
      refine lv_iload_n hx hb dX5_how_69 rfl (lv_at hl 2 rfl) ?_
      refine lv_iconst (v := 1) hx hb dX5_how_70 (by decide) ?_
      refine lv_isub hx hb dX5_how_71 ?_
      refine mz_fold (y := 0) (by decide) ?_
      refine mz_ild hx hb hE.1 hP 1 0 (f := upd (upd (upd (upd (upd (fun _ => 0) 0 1) 1 9) 2 40) 3 120) 4 2147483647) (n := 5) rfl rfl 0 (by omega) (by omega) dX5_how_72 ?_
      refine mz_fold (y := 1) rfl ?_
      refine mz_le (tgt := 80) hx hb dX5_how_73 (by decide) (fun c_73 => ?_) (fun c_73 => ?_)
      · refine lv_iconst (v := 0) hx hb dX5_how_80 (by decide) ?_
        exact W.iret (v := 0) hx hb hr (fun t ht hW => ⟨⟨_, (), rfl, (by simp only [howF_1, if_neg c_60, if_neg c_73]), trivial⟩, hS.F ht⟩) hS.2.2 dX5_how_81
      · refine lv_iconst (v := 1) hx hb dX5_how_76 (by decide) ?_
        refine lv_goto (tgt := 81) hx hb dX5_how_77 (by decide) ?_
        exact W.iret (v := 1) hx hb hr (fun t ht hW => ⟨⟨_, (), rfl, (by simp only [howF_1, if_neg c_60, if_pos c_73]), trivial⟩, hS.F ht⟩) hS.2.2 dX5_how_81
    · refine lv_iconst (v := (-1)) hx hb dX5_how_63 (by decide) ?_
      refine lv_goto (tgt := 81) hx hb dX5_how_64 (by decide) ?_
      exact W.iret (v := (-1)) hx hb hr (fun t ht hW => ⟨⟨_, (), rfl, (by simp only [howF_1, if_pos c_60]), trivial⟩, hS.F ht⟩) hS.2.2 dX5_how_81
  · refine lv_iload_n hx hb dX5_how_54 rfl (lv_at hl 3 rfl) ?_
    refine lv_aload_n hx hb dX5_how_55 rfl (lv_at hl 1 rfl) ?_
    refine lv_iload_n hx hb dX5_how_56 rfl (lv_at hl 2 rfl) ?_
    refine lv_iconst (v := 1) hx hb dX5_how_57 (by decide) ?_
    refine lv_isub hx hb dX5_how_58 ?_
    refine mz_fold (y := 1) (by decide) ?_
    refine mz_ild hx hb hE.1 hP 0 0 (f := upd (upd (upd (upd (upd (fun _ => 0) 0 0) 1 0) 2 4) 3 25) 4 80) (n := 5) rfl rfl 1 (by omega) (by omega) dX5_how_59 ?_
    refine mz_fold (y := 0) rfl ?_
    refine mz_ge (tgt := 67) hx hb dX5_how_60 (by decide) (fun c_60 => ?_) (fun c_60 => ?_)
    · refine lv_iload_n hx hb dX5_how_67 rfl (lv_at hl 3 rfl) ?_
      refine lv_aload_n hx hb dX5_how_68 rfl (lv_at hl 0 rfl) ?_
      refine lv_iload_n hx hb dX5_how_69 rfl (lv_at hl 2 rfl) ?_
      refine lv_iconst (v := 1) hx hb dX5_how_70 (by decide) ?_
      refine lv_isub hx hb dX5_how_71 ?_
      refine mz_fold (y := 1) (by decide) ?_
      refine mz_ild hx hb hE.1 hP 1 0 (f := upd (upd (upd (upd (upd (fun _ => 0) 0 1) 1 9) 2 40) 3 120) 4 2147483647) (n := 5) rfl rfl 1 (by omega) (by omega) dX5_how_72 ?_
      refine mz_fold (y := 9) rfl ?_
      refine mz_le (tgt := 80) hx hb dX5_how_73 (by decide) (fun c_73 => ?_) (fun c_73 => ?_)
      · refine lv_iconst (v := 0) hx hb dX5_how_80 (by decide) ?_
        exact W.iret (v := 0) hx hb hr (fun t ht hW => ⟨⟨_, (), rfl, (by simp only [howF_2, if_neg c_60, if_neg c_73]), trivial⟩, hS.F ht⟩) hS.2.2 dX5_how_81
      · refine lv_iconst (v := 1) hx hb dX5_how_76 (by decide) ?_
        refine lv_goto (tgt := 81) hx hb dX5_how_77 (by decide) ?_
        exact W.iret (v := 1) hx hb hr (fun t ht hW => ⟨⟨_, (), rfl, (by simp only [howF_2, if_neg c_60, if_pos c_73]), trivial⟩, hS.F ht⟩) hS.2.2 dX5_how_81
    · refine lv_iconst (v := (-1)) hx hb dX5_how_63 (by decide) ?_
      refine lv_goto (tgt := 81) hx hb dX5_how_64 (by decide) ?_
      exact W.iret (v := (-1)) hx hb hr (fun t ht hW => ⟨⟨_, (), rfl, (by simp only [howF_2, if_pos c_60]), trivial⟩, hS.F ht⟩) hS.2.2 dX5_how_81
  · refine lv_iload_n hx hb dX5_how_54 rfl (lv_at hl 3 rfl) ?_
    refine lv_aload_n hx hb dX5_how_55 rfl (lv_at hl 1 rfl) ?_
    refine lv_iload_n hx hb dX5_how_56 rfl (lv_at hl 2 rfl) ?_
    refine lv_iconst (v := 1) hx hb dX5_how_57 (by decide) ?_
    refine lv_isub hx hb dX5_how_58 ?_
    refine mz_fold (y := 2) (by decide) ?_
    refine mz_ild hx hb hE.1 hP 0 0 (f := upd (upd (upd (upd (upd (fun _ => 0) 0 0) 1 0) 2 4) 3 25) 4 80) (n := 5) rfl rfl 2 (by omega) (by omega) dX5_how_59 ?_
    refine mz_fold (y := 4) rfl ?_
    refine mz_ge (tgt := 67) hx hb dX5_how_60 (by decide) (fun c_60 => ?_) (fun c_60 => ?_)
    · refine lv_iload_n hx hb dX5_how_67 rfl (lv_at hl 3 rfl) ?_
      refine lv_aload_n hx hb dX5_how_68 rfl (lv_at hl 0 rfl) ?_
      refine lv_iload_n hx hb dX5_how_69 rfl (lv_at hl 2 rfl) ?_
      refine lv_iconst (v := 1) hx hb dX5_how_70 (by decide) ?_
      refine lv_isub hx hb dX5_how_71 ?_
      refine mz_fold (y := 2) (by decide) ?_
      refine mz_ild hx hb hE.1 hP 1 0 (f := upd (upd (upd (upd (upd (fun _ => 0) 0 1) 1 9) 2 40) 3 120) 4 2147483647) (n := 5) rfl rfl 2 (by omega) (by omega) dX5_how_72 ?_
      refine mz_fold (y := 40) rfl ?_
      refine mz_le (tgt := 80) hx hb dX5_how_73 (by decide) (fun c_73 => ?_) (fun c_73 => ?_)
      · refine lv_iconst (v := 0) hx hb dX5_how_80 (by decide) ?_
        exact W.iret (v := 0) hx hb hr (fun t ht hW => ⟨⟨_, (), rfl, (by simp only [howF_3, if_neg c_60, if_neg c_73]), trivial⟩, hS.F ht⟩) hS.2.2 dX5_how_81
      · refine lv_iconst (v := 1) hx hb dX5_how_76 (by decide) ?_
        refine lv_goto (tgt := 81) hx hb dX5_how_77 (by decide) ?_
        exact W.iret (v := 1) hx hb hr (fun t ht hW => ⟨⟨_, (), rfl, (by simp only [howF_3, if_neg c_60, if_pos c_73]), trivial⟩, hS.F ht⟩) hS.2.2 dX5_how_81
    · refine lv_iconst (v := (-1)) hx hb dX5_how_63 (by decide) ?_
      refine lv_goto (tgt := 81) hx hb dX5_how_64 (by decide) ?_
      exact W.iret (v := (-1)) hx hb hr (fun t ht hW => ⟨⟨_, (), rfl, (by simp only [howF_3, if_pos c_60]), trivial⟩, hS.F ht⟩) hS.2.2 dX5_how_81
  · refine lv_iload_n hx hb dX5_how_54 rfl (lv_at hl 3 rfl) ?_
    refine lv_aload_n hx hb dX5_how_55 rfl (lv_at hl 1 rfl) ?_
    refine lv_iload_n hx hb dX5_how_56 rfl (lv_at hl 2 rfl) ?_
    refine lv_iconst (v := 1) hx hb dX5_how_57 (by decide) ?_
    refine lv_isub hx hb dX5_how_58 ?_
    refine mz_fold (y := 3) (by decide) ?_
    refine mz_ild hx hb hE.1 hP 0 0 (f := upd (upd (upd (upd (upd (fun _ => 0) 0 0) 1 0) 2 4) 3 25) 4 80) (n := 5) rfl rfl 3 (by omega) (by omega) dX5_how_59 ?_
    refine mz_fold (y := 25) rfl ?_
    refine mz_ge (tgt := 67) hx hb dX5_how_60 (by decide) (fun c_60 => ?_) (fun c_60 => ?_)
    · refine lv_iload_n hx hb dX5_how_67 rfl (lv_at hl 3 rfl) ?_
      refine lv_aload_n hx hb dX5_how_68 rfl (lv_at hl 0 rfl) ?_
      refine lv_iload_n hx hb dX5_how_69 rfl (lv_at hl 2 rfl) ?_
      refine lv_iconst (v := 1) hx hb dX5_how_70 (by decide) ?_
      refine lv_isub hx hb dX5_how_71 ?_
      refine mz_fold (y := 3) (by decide) ?_
      refine mz_ild hx hb hE.1 hP 1 0 (f := upd (upd (upd (upd (upd (fun _ => 0) 0 1) 1 9) 2 40) 3 120) 4 2147483647) (n := 5) rfl rfl 3 (by omega) (by omega) dX5_how_72 ?_
      refine mz_fold (y := 120) rfl ?_
      refine mz_le (tgt := 80) hx hb dX5_how_73 (by decide) (fun c_73 => ?_) (fun c_73 => ?_)
      · refine lv_iconst (v := 0) hx hb dX5_how_80 (by decide) ?_
        exact W.iret (v := 0) hx hb hr (fun t ht hW => ⟨⟨_, (), rfl, (by simp only [howF_4, if_neg c_60, if_neg c_73]), trivial⟩, hS.F ht⟩) hS.2.2 dX5_how_81
      · refine lv_iconst (v := 1) hx hb dX5_how_76 (by decide) ?_
        refine lv_goto (tgt := 81) hx hb dX5_how_77 (by decide) ?_
        exact W.iret (v := 1) hx hb hr (fun t ht hW => ⟨⟨_, (), rfl, (by simp only [howF_4, if_neg c_60, if_pos c_73]), trivial⟩, hS.F ht⟩) hS.2.2 dX5_how_81
    · refine lv_iconst (v := (-1)) hx hb dX5_how_63 (by decide) ?_
      refine lv_goto (tgt := 81) hx hb dX5_how_64 (by decide) ?_
      exact W.iret (v := (-1)) hx hb hr (fun t ht hW => ⟨⟨_, (), rfl, (by simp only [howF_4, if_pos c_60]), trivial⟩, hS.F ht⟩) hS.2.2 dX5_how_81
  · refine lv_iload_n hx hb dX5_how_54 rfl (lv_at hl 3 rfl) ?_
    refine lv_aload_n hx hb dX5_how_55 rfl (lv_at hl 1 rfl) ?_
    refine lv_iload_n hx hb dX5_how_56 rfl (lv_at hl 2 rfl) ?_
    refine lv_iconst (v := 1) hx hb dX5_how_57 (by decide) ?_
    refine lv_isub hx hb dX5_how_58 ?_
    refine mz_fold (y := 4) (by decide) ?_
    refine mz_ild hx hb hE.1 hP 0 0 (f := upd (upd (upd (upd (upd (fun _ => 0) 0 0) 1 0) 2 4) 3 25) 4 80) (n := 5) rfl rfl 4 (by omega) (by omega) dX5_how_59 ?_
    refine mz_fold (y := 80) rfl ?_
    refine mz_ge (tgt := 67) hx hb dX5_how_60 (by decide) (fun c_60 => ?_) (fun c_60 => ?_)
    · refine lv_iload_n hx hb dX5_how_67 rfl (lv_at hl 3 rfl) ?_
      refine lv_aload_n hx hb dX5_how_68 rfl (lv_at hl 0 rfl) ?_
      refine lv_iload_n hx hb dX5_how_69 rfl (lv_at hl 2 rfl) ?_
      refine lv_iconst (v := 1) hx hb dX5_how_70 (by decide) ?_
      refine lv_isub hx hb dX5_how_71 ?_
      refine mz_fold (y := 4) (by decide) ?_
      refine mz_ild hx hb hE.1 hP 1 0 (f := upd (upd (upd (upd (upd (fun _ => 0) 0 1) 1 9) 2 40) 3 120) 4 2147483647) (n := 5) rfl rfl 4 (by omega) (by omega) dX5_how_72 ?_
      refine mz_fold (y := 2147483647) rfl ?_
      refine mz_le (tgt := 80) hx hb dX5_how_73 (by decide) (fun c_73 => ?_) (fun c_73 => ?_)
      · refine lv_iconst (v := 0) hx hb dX5_how_80 (by decide) ?_
        exact W.iret (v := 0) hx hb hr (fun t ht hW => ⟨⟨_, (), rfl, (by simp only [howF_5, if_neg c_60, if_neg c_73]), trivial⟩, hS.F ht⟩) hS.2.2 dX5_how_81
      · refine lv_iconst (v := 1) hx hb dX5_how_76 (by decide) ?_
        refine lv_goto (tgt := 81) hx hb dX5_how_77 (by decide) ?_
        exact W.iret (v := 1) hx hb hr (fun t ht hW => ⟨⟨_, (), rfl, (by simp only [howF_5, if_neg c_60, if_pos c_73]), trivial⟩, hS.F ht⟩) hS.2.2 dX5_how_81
    · refine lv_iconst (v := (-1)) hx hb dX5_how_63 (by decide) ?_
      refine lv_goto (tgt := 81) hx hb dX5_how_64 (by decide) ?_
      exact W.iret (v := (-1)) hx hb hr (fun t ht hW => ⟨⟨_, (), rfl, (by simp only [howF_5, if_pos c_60]), trivial⟩, hS.F ht⟩) hS.2.2 dX5_how_81
set_option maxHeartbeats 4000000 in
set_option maxRecDepth 100000 in
theorem kX5_riskOf (l : Launch) (E : ev_T) (m0 : Nat) (m1 : Nat) (m2 : Nat) (m3 : Nat) (m4 : Nat) (m5 : Nat) (m6 : Nat) (m7 : Nat) (m8 : Nat) (th : Int32) (md : Nat) (mr : Nat) (ms : Nat) (ml : Nat) (NU : Nat → Int32) (LS : Nat → Int32) (LT : Nat → Int32) (rg : Nat) (lg : Nat) (hrg : rg < 6) (hlg : lg < 20) : Met l yX5_riskOf wsX5_riskOf ({ frames := 6, cells := 0, slots := 0, locals := 131 } : Room) (va_Pc [.ref m0, .int (nI rg), .int (nI lg)] (pr_R E [(m0, .inr (5, [.int th, .int (nI md), .int (nI mr), .ref m1, .ref m2, .ref m3, .ref m4, .ref m5, .int (nI ms), .ref m6, .int (nI ml), .ref m7, .ref m8])), (m1, .inl (E.2.1 0, 360, .inl NU)), (m7, .inl (E.2.1 0, 20, .inl LS)), (m8, .inl (E.2.1 0, 20, .inl LT))])) (va_Qi (fun (r : Int32) (_ : Unit) => r = rkM NU rg (LS lg) (LT lg)) (fun _ _ => True) (fun _ : Nat => False)) 0 0 (fun _ : Nat => False) := by
  refine Met.ofW (cc := cX5_riskOf) (maxL := 5) (ret := (some .int)) (by decide) rfl ?_
  intro p e s m args below meth c s₁ B hml hv
  obtain ⟨rfl, hP, hE⟩ := hv
  have hx := B.exec
  have hb := B.bytes
  have hr := B.returns
  have hts := atoms_spec (ws := wsX5_riskOf) B.pre
  have hown : s.vm.findClass RX5 = some m.cls := findClass_of_methodNamed B.named
  have hlocks := B.notSynchronized
  refine mz_start (fun H locs hH hL => ?_)
  have hS : va_S (fun _ : Nat => False) s.heap H locs := by rw [hH, hL]; exact va_S.rf
  have f_9 := hts (.fieldLink RX5 9 "AvalancheDeskModel" "numbers" "[I") (by decide +kernel)
  have inX5 : ∀ w ∈ wsX50, w ∈ wsX5_riskOf := by decide +kernel
  have f_32 := hts (.fieldLink RX5 32 "AvalancheDeskModel" "legSteeps" "[I") (by decide +kernel)
  have f_29 := hts (.fieldLink RX5 29 "AvalancheDeskModel" "legSectors" "[I") (by decide +kernel)
  have hl := lv_entry ([.ref m0, .int (nI rg), .int (nI lg)]) (n := 5) (Nat.le_of_ble_eq_true rfl)
  rw [lg_entry_eq]
  generalize (lg_sl ([.ref m0, .int (nI rg), .int (nI lg)]) ++ List.replicate (5 - (lg_sl ([.ref m0, .int (nI rg), .int (nI lg)])).length) Slot.unset).toArray = ls at hl ⊢
  have hl : lv_has ls 5 [(0, .ref m0), (1, .int (nI rg)), (2, .int (nI lg))] := hl
  have hP : va_P E.1 vwCl [(m0, .inr (5, [.int th, .int (nI md), .int (nI mr), .ref m1, .ref m2, .ref m3, .ref m4, .ref m5, .int (nI ms), .ref m6, .int (nI ml), .ref m7, .ref m8])), (m1, .inl (E.2.1 0, 360, .inl NU)), (m7, .inl (E.2.1 0, 20, .inl LS)), (m8, .inl (E.2.1 0, 20, .inl LT))] H := by rw [hH]; exact hP
  refine lv_bipush (v := 100) hx hb dX5_riskOf_0 (by decide) ?_
  refine lv_aload_n hx hb dX5_riskOf_2 rfl (lv_at hl 0 rfl) ?_
  refine lv_aload_n hx hb dX5_riskOf_3 rfl (lv_at hl 0 rfl) ?_
  refine va_get (D := E.1) (ci := 5) (v := .ref m1) (C := RX5) (T := TX5) (N := 13) hx hb hts inX5 hown hE.1 hP 0 rfl rfl 3 (by decide) f_9 (fun _ h9 => h9) rfl dX5_riskOf_4 ?_
  refine lv_iload_n hx hb dX5_riskOf_7 rfl (lv_at hl 1 rfl) ?_
  refine va_calli (va_runV (As := [.ref m1, .int (nI rg)]) (rest := [.int 100]) ⟨hx, hb, hml, hown, hts⟩ (kX5_level l E m0 m1 m2 m3 m4 m5 m6 m7 m8 th md mr ms ml m1 360 NU rg (by first | omega | assumption | (intro k h; have := hz k h; omega)) (by first | omega | assumption | (intro k h; have := hz k h; omega))) (cwV 2 hts gX5_riskOf_X5_level rfl rfl rfl (by decide +kernel) ⟨Nat.le_of_ble_eq_true rfl, Nat.le_of_ble_eq_true rfl⟩) ⟨fb_R, va_recv hE.1 hP (ci := 5) (q0 := 0) rfl rfl, fun U hU hW => ⟨rfl, (by rw [hU]; exact hP.sub (ws' := [(m0, .inr (5, [.int th, .int (nI md), .int (nI mr), .ref m1, .ref m2, .ref m3, .ref m4, .ref m5, .int (nI ms), .ref m6, .int (nI ml), .ref m7, .ref m8])), (m1, .inl (E.2.1 0, 360, .inl NU))]) [0, 1] rfl), hE.warm hW⟩⟩ rfl rfl hl.1 rfl (lv_room (Nat.le_of_ble_eq_true rfl)) dX5_riskOf_8 ⟨by first | exact Nat.le_of_ble_eq_true rfl | (show _ ≤ 0; omega), by first | exact Nat.le_of_ble_eq_true rfl | (show _ ≤ 0; omega)⟩) hS (fun q _ h => h.elim) (fun q h => h.elim) (fun r8_0 u t H1 locs ht hvm hw hB hz1 hk1 hS => ?_)
  have hP := hP.ro hk1
  generalize H1 = H at hP hS ⊢
  subst hw
  refine lv_ishl hx hb dX5_riskOf_11 ?_
  refine lv_istore_n (lv' := [(3, .int (100 <<< ((levM NU rg) &&& 31))), (0, .ref m0), (1, .int (nI rg)), (2, .int (nI lg))]) hx hb dX5_riskOf_12 rfl hl (by decide) rfl (fun ls hl => ?_)
  have KJ34 : ∀ (rk : Int32), rk = (rkC (levM NU rg) (corM NU rg) (LS lg)) → ∀ (H : Heap) (locs : List Loc) (ls : Array Slot), va_P E.1 vwCl [(m0, .inr (5, [.int th, .int (nI md), .int (nI mr), .ref m1, .ref m2, .ref m3, .ref m4, .ref m5, .int (nI ms), .ref m6, .int (nI ml), .ref m7, .ref m8])), (m1, .inl (E.2.1 0, 360, .inl NU)), (m7, .inl (E.2.1 0, 20, .inl LS)), (m8, .inl (E.2.1 0, 20, .inl LT))] H → va_S (fun _ : Nat => False) s.heap H locs → lv_has ls 5 [(3, .int rk), (0, .ref m0), (1, .int (nI rg)), (2, .int (nI lg))] → W p l e (headSpec wsX5_riskOf ({ frames := 6, cells := 0, slots := 0, locals := 131 } : Room)).room s m [.ref m0, .int (nI rg), .int (nI lg)].toArray below meth c H locs 0 0 (MQ below (va_Qi (fun (r : Int32) (_ : Unit) => r = rkM NU rg (LS lg) (LT lg)) (fun _ _ => True) (fun _ : Nat => False)) [.ref m0, .int (nI rg), .int (nI lg)].toArray s 0 0 (fun _ : Nat => False)) (F0 m 34 ls []) := by
    intro rk erk H locs ls hP hS hl
    subst erk
    refine lv_aload_n hx hb dX5_riskOf_34 rfl (lv_at hl 1 rfl) ?_
    refine va_get (D := E.1) (ci := 5) (v := .ref m8) (C := RX5) (T := TX5) (N := 13) hx hb hts inX5 hown hE.1 hP 0 rfl rfl 12 (by decide) f_32 (fun _ h9 => h9) rfl dX5_riskOf_35 ?_
    refine lv_iload_n hx hb dX5_riskOf_38 rfl (lv_at hl 3 rfl) ?_
    refine mz_ild hx hb hE.1 hP 3 0 (f := LT) (n := 20) rfl rfl lg (by omega) (by omega) dX5_riskOf_39 ?_
    refine lv_istore (lv' := [(4, .int (LT lg)), (3, .int (rkC (levM NU rg) (corM NU rg) (LS lg))), (0, .ref m0), (1, .int (nI rg)), (2, .int (nI lg))]) hx hb dX5_riskOf_40 hl (by decide) rfl (fun ls hl => ?_)
    refine lv_iload_n hx hb dX5_riskOf_42 rfl (lv_at hl 1 rfl) ?_
    refine lv_iload hx hb dX5_riskOf_43 (lv_at hl 0 rfl) ?_
    refine lv_bipush (v := 40) hx hb dX5_riskOf_45 (by decide) ?_
    refine mz_lt (tgt := 54) hx hb dX5_riskOf_47 (by decide) (fun c_47 => ?_) (fun c_47 => ?_)
    · refine lv_iload hx hb dX5_riskOf_54 (lv_at hl 0 rfl) ?_
      refine lv_bipush (v := 35) hx hb dX5_riskOf_56 (by decide) ?_
      refine mz_lt (tgt := 65) hx hb dX5_riskOf_58 (by decide) (fun c_58 => ?_) (fun c_58 => ?_)
      · refine lv_iload hx hb dX5_riskOf_65 (lv_at hl 0 rfl) ?_
        refine lv_bipush (v := 30) hx hb dX5_riskOf_67 (by decide) ?_
        refine mz_lt (tgt := 76) hx hb dX5_riskOf_69 (by decide) (fun c_69 => ?_) (fun c_69 => ?_)
        · refine lv_bipush (v := 8) hx hb dX5_riskOf_76 (by decide) ?_
          refine lv_idiv hx hb dX5_riskOf_78 (by decide) ?_
          exact W.iret (v := (rkC (levM NU rg) (corM NU rg) (LS lg)) / 8) hx hb hr (fun t ht hW => ⟨⟨_, (), rfl, (by first | (simp only [rkM, rkF, rkS, i32_div1, if_pos c_47, if_pos c_58, if_pos c_69]; done) | (try unfold rkM; try unfold rkF; try unfold rkS; try unfold i32_div1; simp only [if_pos c_47, if_pos c_58, if_pos c_69]; done) | (try unfold rkM; try unfold rkF; try unfold rkS; try unfold i32_div1; rfl) | rfl), trivial⟩, hS.F ht⟩) hS.2.2 dX5_riskOf_79
        · refine lv_iconst (v := 4) hx hb dX5_riskOf_72 (by decide) ?_
          refine lv_goto (tgt := 78) hx hb dX5_riskOf_73 (by decide) ?_
          refine lv_idiv hx hb dX5_riskOf_78 (by decide) ?_
          exact W.iret (v := (rkC (levM NU rg) (corM NU rg) (LS lg)) / 4) hx hb hr (fun t ht hW => ⟨⟨_, (), rfl, (by first | (simp only [rkM, rkF, rkS, i32_div1, if_pos c_47, if_pos c_58, if_neg c_69]; done) | (try unfold rkM; try unfold rkF; try unfold rkS; try unfold i32_div1; simp only [if_pos c_47, if_pos c_58, if_neg c_69]; done) | (try unfold rkM; try unfold rkF; try unfold rkS; try unfold i32_div1; rfl) | rfl), trivial⟩, hS.F ht⟩) hS.2.2 dX5_riskOf_79
      · refine lv_iconst (v := 2) hx hb dX5_riskOf_61 (by decide) ?_
        refine lv_goto (tgt := 78) hx hb dX5_riskOf_62 (by decide) ?_
        refine lv_idiv hx hb dX5_riskOf_78 (by decide) ?_
        exact W.iret (v := (rkC (levM NU rg) (corM NU rg) (LS lg)) / 2) hx hb hr (fun t ht hW => ⟨⟨_, (), rfl, (by first | (simp only [rkM, rkF, rkS, i32_div1, if_pos c_47, if_neg c_58]; done) | (try unfold rkM; try unfold rkF; try unfold rkS; try unfold i32_div1; simp only [if_pos c_47, if_neg c_58]; done) | (try unfold rkM; try unfold rkF; try unfold rkS; try unfold i32_div1; rfl) | rfl), trivial⟩, hS.F ht⟩) hS.2.2 dX5_riskOf_79
    · refine lv_iconst (v := 1) hx hb dX5_riskOf_50 (by decide) ?_
      refine lv_goto (tgt := 78) hx hb dX5_riskOf_51 (by decide) ?_
      refine lv_idiv hx hb dX5_riskOf_78 (by decide) ?_
      exact W.iret (v := (rkC (levM NU rg) (corM NU rg) (LS lg)) / 1) hx hb hr (fun t ht hW => ⟨⟨_, (), rfl, (by first | (simp only [rkM, rkF, rkS, i32_div1, if_neg c_47]; done) | (try unfold rkM; try unfold rkF; try unfold rkS; try unfold i32_div1; simp only [if_neg c_47]; done) | (try unfold rkM; try unfold rkF; try unfold rkS; try unfold i32_div1; rfl) | rfl), trivial⟩, hS.F ht⟩) hS.2.2 dX5_riskOf_79
  refine lv_aload_n hx hb dX5_riskOf_13 rfl (lv_at hl 1 rfl) ?_
  refine lv_iload_n hx hb dX5_riskOf_14 rfl (lv_at hl 2 rfl) ?_
  refine va_calli (va_runV (As := [.int (nI rg)]) (rest := []) ⟨hx, hb, hml, hown, hts⟩ (kX5_coreOf l E m0 m1 m2 m3 m4 m5 m6 m7 m8 th md mr ms ml NU rg (by first | omega | assumption | (intro k h; have := hz k h; omega))) (cwV 1 hts gX5_riskOf_X5_coreOf rfl rfl rfl (by decide +kernel) ⟨Nat.le_of_ble_eq_true rfl, Nat.le_of_ble_eq_true rfl⟩) ⟨fb_R, va_recv hE.1 hP (ci := 5) (q0 := 0) rfl rfl, fun U hU hW => ⟨rfl, (by rw [hU]; exact hP.sub (ws' := [(m0, .inr (5, [.int th, .int (nI md), .int (nI mr), .ref m1, .ref m2, .ref m3, .ref m4, .ref m5, .int (nI ms), .ref m6, .int (nI ml), .ref m7, .ref m8])), (m1, .inl (E.2.1 0, 360, .inl NU))]) [0, 1] rfl), hE.warm hW⟩⟩ rfl rfl hl.1 rfl (lv_room (Nat.le_of_ble_eq_true rfl)) dX5_riskOf_15 ⟨by first | exact Nat.le_of_ble_eq_true rfl | (show _ ≤ 0; omega), by first | exact Nat.le_of_ble_eq_true rfl | (show _ ≤ 0; omega)⟩) hS (fun q _ h => h.elim) (fun q h => h.elim) (fun r15_1 u t H1 locs ht hvm hw hB hz1 hk1 hS => ?_)
  have hP := hP.ro hk1
  generalize H1 = H at hP hS ⊢
  subst hw
  refine lv_aload_n hx hb dX5_riskOf_18 rfl (lv_at hl 1 rfl) ?_
  refine va_get (D := E.1) (ci := 5) (v := .ref m7) (C := RX5) (T := TX5) (N := 13) hx hb hts inX5 hown hE.1 hP 0 rfl rfl 11 (by decide) f_29 (fun _ h9 => h9) rfl dX5_riskOf_19 ?_
  refine lv_iload_n hx hb dX5_riskOf_22 rfl (lv_at hl 3 rfl) ?_
  refine mz_ild hx hb hE.1 hP 2 0 (f := LS) (n := 20) rfl rfl lg (by omega) (by omega) dX5_riskOf_23 ?_
  refine lv_ishr hx hb dX5_riskOf_24 ?_
  refine lv_iconst (v := 1) hx hb dX5_riskOf_25 (by decide) ?_
  refine lv_iand hx hb dX5_riskOf_26 ?_
  refine lv_if_ne (tgt := 34) hx hb dX5_riskOf_27 (by decide) (fun c_27 => ?_) (fun c_27 => ?_)
  · exact KJ34 (100 <<< ((levM NU rg) &&& 31)) (by first | (simp only [rkC, bitF, if_neg c_27]; done) | (try unfold rkC; try unfold bitF; simp only [if_neg c_27]; done) | (try unfold rkC; try unfold bitF; rfl) | rfl) _ _ _ hP hS (lv_sub hl [0, 1, 2, 3] rfl)
  · refine lv_iload_n hx hb dX5_riskOf_30 rfl (lv_at hl 0 rfl) ?_
    refine lv_iconst (v := 4) hx hb dX5_riskOf_31 (by decide) ?_
    refine lv_idiv hx hb dX5_riskOf_32 (by decide) ?_
    refine lv_istore_n (lv' := [(3, .int ((100 <<< ((levM NU rg) &&& 31)) / 4)), (0, .ref m0), (1, .int (nI rg)), (2, .int (nI lg))]) hx hb dX5_riskOf_33 rfl hl (by decide) rfl (fun ls hl => ?_)
    exact KJ34 ((100 <<< ((levM NU rg) &&& 31)) / 4) (by first | (simp only [rkC, bitF, if_pos c_27]; done) | (try unfold rkC; try unfold bitF; simp only [if_pos c_27]; done) | (try unfold rkC; try unfold bitF; rfl) | rfl) _ _ _ hP hS (lv_sub hl [0, 1, 2, 3] rfl)
