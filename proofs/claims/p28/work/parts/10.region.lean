/-! what a region's methods compute: its numbers N (five a sector), its own fields F (1 told, 2 snow, 3 wind, 4 from, 5 temperature) -/
def gr (w : Int32) : Int32 := if w = 4 then 10 else 100
def lvD (d : Int32) : Int32 := if d < 10 then 1 else if d < 30 then 2 else if d < 55 then 3 else if d < 80 then 4 else 5
def pN (N : Nat → Int32) (s w : Nat) (x : Int32) : Nat → Int32 := upd N (s * 5 + w) (mn x (gr (nI w)))
def gN (N : Nat → Int32) (s w : Nat) (x : Int32) : Nat → Int32 := pN N s w (N (s * 5 + w) + x)
def qN (N : Nat → Int32) (s w : Nat) (x : Int32) : Nat → Int32 := pN N s w (N (s * 5 + w) * x / 100)
def fF (a b c d e : Int32) : Nat → Int32
  | 1 => a
  | 2 => b
  | 3 => c
  | 4 => d
  | 5 => e
  | _ => 0
def rm4 (x : Int32) : Int32 := x - x / 4 * 4
def bitF (x i : Int32) : Int32 := (x >>> (i &&& 31)) &&& 1
def settleN (N : Nat → Int32) (s : Nat) (t f sn : Int32) : Nat → Int32 := if 1 < t then gN (pN N s 0 (N (s * 5 + 0) * 6 / 10 + f)) s 3 (sn / 2) else pN N s 0 (N (s * 5 + 0) * 6 / 10 + f)
def mostN (N : Nat → Int32) (s : Nat) (wi : Int32) : Int32 := mn (N (s * 5 + 0)) 40 * (wi - 20) / 40
def turnS (s : Nat) (fr : Int32) : Int32 := rm4 (nI (s % 4) - fr + 4)
def blowN (N : Nat → Int32) (s : Nat) (wi fr : Int32) : Nat → Int32 := if wi < 25 then qN N s 1 80 else if turnS s fr = 2 then gN N s 1 (mostN N s wi) else if turnS s fr = 0 then N else gN N s 1 (mostN N s wi / 2)
def buryN (N : Nat → Int32) (s : Nat) (t f wi : Int32) : Nat → Int32 := if f < 10 then (if wi < 40 then (if 0 < t then pN N s 4 0 else if f = 0 then (if wi < 15 then (if t < -8 then gN N s 4 1 else N) else N) else N) else pN N s 4 0) else pN (gN N s 2 (15 * N (s * 5 + 4))) s 4 0
def thawN (N : Nat → Int32) (s : Nat) (t : Int32) : Nat → Int32 := if 0 < t then (if s % 4 = 2 then gN (qN N s 2 70) s 3 (8 * t) else gN (qN N s 2 70) s 3 (4 * t)) else qN (qN N s 2 95) s 3 50
def tS (te : Int32) (s : Nat) : Int32 := te + 6 * (1 - nI (s / 4))
def fallS (sn t : Int32) : Int32 := if 1 < t then 0 else sn
def dayN (N : Nat → Int32) (s : Nat) (sn wi fr te : Int32) : Nat → Int32 := thawN (buryN (blowN (settleN N s (tS te s) (fallS sn (tS te s)) sn) s wi fr) s (tS te s) (fallS sn (tS te s)) wi) s (tS te s)
def pdN (N : Nat → Int32) (sn wi fr te : Int32) : Nat → Nat → Int32
  | 0 => N
  | s + 1 => dayN (pdN N sn wi fr te s) s sn wi fr te
def rw5 (N : Nat → Int32) (s : Nat) : Nat → Int32 := fun p => N (s * 5 + p)
def prR (r : Nat → Int32) (p : Nat) : Int32 := if p = 2 then r p * mn 100 (r 0 + r 1) / 100 else r p
def dgA (r : Nat → Int32) : Nat → Int32 × Int32
  | 0 => (0, 0)
  | p + 1 => (mx (dgA r p).1 (prR r p), mx (dgA r p).2 (mn (prR r p) (dgA r p).1))
def dngA (r : Nat → Int32) : Int32 := (dgA r 4).1 + (dgA r 4).2 / 4
def flA (N : Nat → Int32) : Nat → Int32 × Int32
  | 0 => (0, 0)
  | s + 1 => (mx (flA N s).1 (dngA (rw5 N s)), mx (flA N s).2 (mn (dngA (rw5 N s)) (flA N s).1))
def levA (N : Nat → Int32) : Int32 := lvD (flA N 12).2
def crA (N : Nat → Int32) (lv : Int32) : Nat → Int32
  | 0 => 0
  | s + 1 => if lvD (dngA (rw5 N s)) < lv then crA N lv s else crA N lv s ||| (1 <<< (nI s &&& 31))
def smA (N : Nat → Int32) (co : Int32) (p : Nat) : Nat → Int32
  | 0 => 0
  | s + 1 => smA N co p s + bitF co (nI s) * prR (rw5 N s) p
def fpA (N : Nat → Int32) (co : Int32) : Nat → Int32 × Int32
  | 0 => (0, -1)
  | p + 1 => if (fpA N co p).2 < smA N co p 12 then (nI p, smA N co p 12) else fpA N co p
set_option maxHeartbeats 4000000 in
set_option maxRecDepth 100000 in
theorem kX4_bit (l : Launch) (E : ev_T) (x : Int32) (ix : Int32) : Met l yX4_bit wsX4_bit ({ frames := 0, cells := 0, slots := 0, locals := 0 } : Room) (va_Pc [.int x, .int ix] (fun _ => True)) (va_Qi (fun (r : Int32) (_ : Unit) => r = bitF x ix) (fun _ _ => True) (fun _ : Nat => False)) 0 0 (fun _ : Nat => False) := by
  refine Met.ofW (cc := cX4_bit) (maxL := 2) (ret := (some .int)) (by decide) rfl ?_
  intro p e s m args below meth c s₁ B hml hv
  obtain ⟨rfl, -⟩ := hv
  have hx := B.exec
  have hb := B.bytes
  have hr := B.returns
  have hts := atoms_spec (ws := wsX4_bit) B.pre
  have hown : s.vm.findClass RX4 = some m.cls := findClass_of_methodNamed B.named
  have hlocks := B.notSynchronized
  refine mz_start (fun H locs hH hL => ?_)
  have hS : va_S (fun _ : Nat => False) s.heap H locs := by rw [hH, hL]; exact va_S.rf
  have hl := lv_entry ([.int x, .int ix]) (n := 2) (Nat.le_of_ble_eq_true rfl)
  rw [lg_entry_eq]
  generalize (lg_sl ([.int x, .int ix]) ++ List.replicate (2 - (lg_sl ([.int x, .int ix])).length) Slot.unset).toArray = ls at hl ⊢
  have hl : lv_has ls 2 [(0, .int x), (1, .int ix)] := hl
  refine lv_iload_n hx hb dX4_bit_0 rfl (lv_at hl 0 rfl) ?_
  refine lv_iload_n hx hb dX4_bit_1 rfl (lv_at hl 1 rfl) ?_
  refine lv_ishr hx hb dX4_bit_2 ?_
  refine lv_iconst (v := 1) hx hb dX4_bit_3 (by decide) ?_
  refine lv_iand hx hb dX4_bit_4 ?_
  exact W.iret (v := (x >>> (ix &&& 31)) &&& 1) hx hb hr (fun t ht hW => ⟨⟨_, (), rfl, (by first | rfl), trivial⟩, hS.F ht⟩) hS.2.2 dX4_bit_5
set_option maxHeartbeats 4000000 in
set_option maxRecDepth 100000 in
/-- the greatest value of a number -/
theorem kX2_greatestOf (l : Launch) (E : ev_T) (wn : Int32) : Met l yX2_greatestOf wsX2_greatestOf ({ frames := 0, cells := 0, slots := 0, locals := 0 } : Room) (va_Pc [.int wn] (fun _ => True)) (va_Qi (fun (r : Int32) (_ : Unit) => r = gr wn) (fun _ _ => True) (fun _ : Nat => False)) 0 0 (fun _ : Nat => False) := by
  refine Met.ofW (cc := cX2_greatestOf) (maxL := 1) (ret := (some .int)) (by decide) rfl ?_
  intro p e s m args below meth c s₁ B hml hv
  obtain ⟨rfl, -⟩ := hv
  have hx := B.exec
  have hb := B.bytes
  have hr := B.returns
  have hts := atoms_spec (ws := wsX2_greatestOf) B.pre
  have hown : s.vm.findClass RX2 = some m.cls := findClass_of_methodNamed B.named
  have hlocks := B.notSynchronized
  refine mz_start (fun H locs hH hL => ?_)
  have hS : va_S (fun _ : Nat => False) s.heap H locs := by rw [hH, hL]; exact va_S.rf
  have hl := lv_entry ([.int wn]) (n := 1) (Nat.le_of_ble_eq_true rfl)
  rw [lg_entry_eq]
  generalize (lg_sl ([.int wn]) ++ List.replicate (1 - (lg_sl ([.int wn])).length) Slot.unset).toArray = ls at hl ⊢
  have hl : lv_has ls 1 [(0, .int wn)] := hl
  refine lv_iload_n hx hb dX2_greatestOf_0 rfl (lv_at hl 0 rfl) ?_
  refine lv_iconst (v := 4) hx hb dX2_greatestOf_1 (by decide) ?_
  refine lv_icmp_ne (tgt := 10) hx hb dX2_greatestOf_2 (by decide) (fun c_2 => ?_) (fun c_2 => ?_)
  · refine lv_bipush (v := 100) hx hb dX2_greatestOf_10 (by decide) ?_
    exact W.iret (v := 100) hx hb hr (fun t ht hW => ⟨⟨_, (), rfl, (by first | (simp only [gr, if_neg c_2]; done) | (try unfold gr; simp only [if_neg c_2]; done) | (try unfold gr; rfl) | rfl), trivial⟩, hS.F ht⟩) hS.2.2 dX2_greatestOf_12
  · refine lv_bipush (v := 10) hx hb dX2_greatestOf_5 (by decide) ?_
    refine lv_goto (tgt := 12) hx hb dX2_greatestOf_7 (by decide) ?_
    exact W.iret (v := 10) hx hb hr (fun t ht hW => ⟨⟨_, (), rfl, (by first | (simp only [gr, if_pos c_2]; done) | (try unfold gr; simp only [if_pos c_2]; done) | (try unfold gr; rfl) | rfl), trivial⟩, hS.F ht⟩) hS.2.2 dX2_greatestOf_12
set_option maxHeartbeats 4000000 in
set_option maxRecDepth 100000 in
theorem kX2_levelOfDanger (l : Launch) (E : ev_T) (dd : Int32) : Met l yX2_levelOfDanger wsX2_levelOfDanger ({ frames := 0, cells := 0, slots := 0, locals := 0 } : Room) (va_Pc [.int dd] (fun _ => True)) (va_Qi (fun (r : Int32) (_ : Unit) => r = lvD dd) (fun _ _ => True) (fun _ : Nat => False)) 0 0 (fun _ : Nat => False) := by
  refine Met.ofW (cc := cX2_levelOfDanger) (maxL := 1) (ret := (some .int)) (by decide) rfl ?_
  intro p e s m args below meth c s₁ B hml hv
  obtain ⟨rfl, -⟩ := hv
  have hx := B.exec
  have hb := B.bytes
  have hr := B.returns
  have hts := atoms_spec (ws := wsX2_levelOfDanger) B.pre
  have hown : s.vm.findClass RX2 = some m.cls := findClass_of_methodNamed B.named
  have hlocks := B.notSynchronized
  refine mz_start (fun H locs hH hL => ?_)
  have hS : va_S (fun _ : Nat => False) s.heap H locs := by rw [hH, hL]; exact va_S.rf
  have hl := lv_entry ([.int dd]) (n := 1) (Nat.le_of_ble_eq_true rfl)
  rw [lg_entry_eq]
  generalize (lg_sl ([.int dd]) ++ List.replicate (1 - (lg_sl ([.int dd])).length) Slot.unset).toArray = ls at hl ⊢
  have hl : lv_has ls 1 [(0, .int dd)] := hl
  refine lv_iload_n hx hb dX2_levelOfDanger_0 rfl (lv_at hl 0 rfl) ?_
  refine lv_bipush (v := 10) hx hb dX2_levelOfDanger_1 (by decide) ?_
  refine mz_ge (tgt := 8) hx hb dX2_levelOfDanger_3 (by decide) (fun c_3 => ?_) (fun c_3 => ?_)
  · refine lv_iload_n hx hb dX2_levelOfDanger_8 rfl (lv_at hl 0 rfl) ?_
    refine lv_bipush (v := 30) hx hb dX2_levelOfDanger_9 (by decide) ?_
    refine mz_ge (tgt := 16) hx hb dX2_levelOfDanger_11 (by decide) (fun c_11 => ?_) (fun c_11 => ?_)
    · refine lv_iload_n hx hb dX2_levelOfDanger_16 rfl (lv_at hl 0 rfl) ?_
      refine lv_bipush (v := 55) hx hb dX2_levelOfDanger_17 (by decide) ?_
      refine mz_ge (tgt := 24) hx hb dX2_levelOfDanger_19 (by decide) (fun c_19 => ?_) (fun c_19 => ?_)
      · refine lv_iload_n hx hb dX2_levelOfDanger_24 rfl (lv_at hl 0 rfl) ?_
        refine lv_bipush (v := 80) hx hb dX2_levelOfDanger_25 (by decide) ?_
        refine mz_ge (tgt := 34) hx hb dX2_levelOfDanger_27 (by decide) (fun c_27 => ?_) (fun c_27 => ?_)
        · refine lv_iconst (v := 5) hx hb dX2_levelOfDanger_34 (by decide) ?_
          exact W.iret (v := 5) hx hb hr (fun t ht hW => ⟨⟨_, (), rfl, (by first | (simp only [lvD, if_neg c_3, if_neg c_11, if_neg c_19, if_neg c_27]; done) | (try unfold lvD; simp only [if_neg c_3, if_neg c_11, if_neg c_19, if_neg c_27]; done) | (try unfold lvD; rfl) | rfl), trivial⟩, hS.F ht⟩) hS.2.2 dX2_levelOfDanger_35
        · refine lv_iconst (v := 4) hx hb dX2_levelOfDanger_30 (by decide) ?_
          refine lv_goto (tgt := 35) hx hb dX2_levelOfDanger_31 (by decide) ?_
          exact W.iret (v := 4) hx hb hr (fun t ht hW => ⟨⟨_, (), rfl, (by first | (simp only [lvD, if_neg c_3, if_neg c_11, if_neg c_19, if_pos c_27]; done) | (try unfold lvD; simp only [if_neg c_3, if_neg c_11, if_neg c_19, if_pos c_27]; done) | (try unfold lvD; rfl) | rfl), trivial⟩, hS.F ht⟩) hS.2.2 dX2_levelOfDanger_35
      · refine lv_iconst (v := 3) hx hb dX2_levelOfDanger_22 (by decide) ?_
        exact W.iret (v := 3) hx hb hr (fun t ht hW => ⟨⟨_, (), rfl, (by first | (simp only [lvD, if_neg c_3, if_neg c_11, if_pos c_19]; done) | (try unfold lvD; simp only [if_neg c_3, if_neg c_11, if_pos c_19]; done) | (try unfold lvD; rfl) | rfl), trivial⟩, hS.F ht⟩) hS.2.2 dX2_levelOfDanger_23
    · refine lv_iconst (v := 2) hx hb dX2_levelOfDanger_14 (by decide) ?_
      exact W.iret (v := 2) hx hb hr (fun t ht hW => ⟨⟨_, (), rfl, (by first | (simp only [lvD, if_neg c_3, if_pos c_11]; done) | (try unfold lvD; simp only [if_neg c_3, if_pos c_11]; done) | (try unfold lvD; rfl) | rfl), trivial⟩, hS.F ht⟩) hS.2.2 dX2_levelOfDanger_15
  · refine lv_iconst (v := 1) hx hb dX2_levelOfDanger_6 (by decide) ?_
    exact W.iret (v := 1) hx hb hr (fun t ht hW => ⟨⟨_, (), rfl, (by first | (simp only [lvD, if_pos c_3]; done) | (try unfold lvD; simp only [if_pos c_3]; done) | (try unfold lvD; rfl) | rfl), trivial⟩, hS.F ht⟩) hS.2.2 dX2_levelOfDanger_7
set_option maxHeartbeats 4000000 in
set_option maxRecDepth 100000 in
theorem kX2_numberAt (l : Launch) (E : ev_T) (h0 : Nat) (h1 : Nat) (F : Nat → Int32) (N : Nat → Int32) (sc : Nat) (wn : Nat) (hs : sc < 12) (hw : wn < 5) : Met l yX2_numberAt wsX2_numberAt ({ frames := 0, cells := 0, slots := 0, locals := 0 } : Room) (va_Pc [.ref h0, .int (nI sc), .int (nI wn)] (pr_R E [(h0, .inr (2, [.ref h1, .int (F 1), .int (F 2), .int (F 3), .int (F 4), .int (F 5)])), (h1, .inl (E.2.1 0, 60, .inl N))])) (va_Qi (fun (r : Int32) (_ : Unit) => r = N (sc * 5 + wn)) (fun _ _ => True) (fun _ : Nat => False)) 0 0 (fun _ : Nat => False) := by
  refine Met.ofW (cc := cX2_numberAt) (maxL := 3) (ret := (some .int)) (by decide) rfl ?_
  intro p e s m args below meth c s₁ B hml hv
  obtain ⟨rfl, hP, hE⟩ := hv
  have hx := B.exec
  have hb := B.bytes
  have hr := B.returns
  have hts := atoms_spec (ws := wsX2_numberAt) B.pre
  have hown : s.vm.findClass RX2 = some m.cls := findClass_of_methodNamed B.named
  have hlocks := B.notSynchronized
  refine mz_start (fun H locs hH hL => ?_)
  have hS : va_S (fun _ : Nat => False) s.heap H locs := by rw [hH, hL]; exact va_S.rf
  have f_9 := hts (.fieldLink RX2 9 "AvalancheDesk$Region" "numbers" "[I") (by decide +kernel)
  have inX2 : ∀ w ∈ wsX20, w ∈ wsX2_numberAt := by decide +kernel
  have hl := lv_entry ([.ref h0, .int (nI sc), .int (nI wn)]) (n := 3) (Nat.le_of_ble_eq_true rfl)
  rw [lg_entry_eq]
  generalize (lg_sl ([.ref h0, .int (nI sc), .int (nI wn)]) ++ List.replicate (3 - (lg_sl ([.ref h0, .int (nI sc), .int (nI wn)])).length) Slot.unset).toArray = ls at hl ⊢
  have hl : lv_has ls 3 [(0, .ref h0), (1, .int (nI sc)), (2, .int (nI wn))] := hl
  have hP : va_P E.1 vwCl [(h0, .inr (2, [.ref h1, .int (F 1), .int (F 2), .int (F 3), .int (F 4), .int (F 5)])), (h1, .inl (E.2.1 0, 60, .inl N))] H := by rw [hH]; exact hP
  refine lv_aload_n hx hb dX2_numberAt_0 rfl (lv_at hl 0 rfl) ?_
  refine va_get (D := E.1) (ci := 2) (v := .ref h1) (C := RX2) (T := TX2) (N := 6) hx hb hts inX2 hown hE.1 hP 0 rfl rfl 0 (by decide) f_9 (fun _ h9 => h9) rfl dX2_numberAt_1 ?_
  refine lv_iload_n hx hb dX2_numberAt_4 rfl (lv_at hl 1 rfl) ?_
  refine lv_iconst (v := 5) hx hb dX2_numberAt_5 (by decide) ?_
  refine mz_mulN hx hb sc 5 dX2_numberAt_6 ?_
  refine lv_iload_n hx hb dX2_numberAt_7 rfl (lv_at hl 2 rfl) ?_
  refine mz_addN hx hb (sc * 5) wn dX2_numberAt_8 ?_
  refine mz_ild hx hb hE.1 hP 1 0 (f := N) (n := 60) rfl rfl ((sc * 5) + wn) (by omega) (by omega) dX2_numberAt_9 ?_
  exact W.iret (v := N ((sc * 5) + wn)) hx hb hr (fun t ht hW => ⟨⟨_, (), rfl, (by first | rfl), trivial⟩, hS.F ht⟩) hS.2.2 dX2_numberAt_10
set_option maxHeartbeats 4000000 in
set_option maxRecDepth 100000 in
theorem kX2_put (l : Launch) (E : ev_T) (h0 : Nat) (h1 : Nat) (F : Nat → Int32) (N : Nat → Int32) (sc : Nat) (wn : Nat) (x : Int32) (sz : Nat) (hs : sc < 12) (hw : wn < 5) : Met l yX2_put wsX2_put ({ frames := 1, cells := 0, slots := 0, locals := 20 } : Room) (va_Pc [.ref h0, .int (nI sc), .int (nI wn), .int x] (pr_W E [(h0, .inr (2, [.ref h1, .int (F 1), .int (F 2), .int (F 3), .int (F 4), .int (F 5)])), (h1, .inl (E.2.1 0, 60, .inl N))] sz)) (va_Qv (fun (_ : Unit) => True) (fun _ t => va_P E.1 vwCl [(h0, .inr (2, [.ref h1, .int (F 1), .int (F 2), .int (F 3), .int (F 4), .int (F 5)])), (h1, .inl (E.2.1 0, 60, .inl (pN N sc wn x)))] t.heap) (va_A [(h0, .inr (2, [.ref h1, .int (F 1), .int (F 2), .int (F 3), .int (F 4), .int (F 5)])), (h1, .inl (E.2.1 0, 60, .inl N))] sz)) 0 0 (va_A [(h0, .inr (2, [.ref h1, .int (F 1), .int (F 2), .int (F 3), .int (F 4), .int (F 5)])), (h1, .inl (E.2.1 0, 60, .inl N))] sz) := by
  refine Met.ofW (cc := cX2_put) (maxL := 4) (ret := none) (by decide) rfl ?_
  intro p e s m args below meth c s₁ B hml hv
  obtain ⟨rfl, hsz, hP, hD0, hE⟩ := hv
  have hx := B.exec
  have hb := B.bytes
  have hr := B.returns
  have hts := atoms_spec (ws := wsX2_put) B.pre
  have hown : s.vm.findClass RX2 = some m.cls := findClass_of_methodNamed B.named
  have hlocks := B.notSynchronized
  subst hsz
  have hD : va_D (va_A [(h0, .inr (2, [.ref h1, .int (F 1), .int (F 2), .int (F 3), .int (F 4), .int (F 5)])), (h1, .inl (E.2.1 0, 60, .inl N))] s.heap.size) [(h0, .inr (2, [.ref h1, .int (F 1), .int (F 2), .int (F 3), .int (F 4), .int (F 5)])), (h1, .inl (E.2.1 0, 60, .inl N))] := hD0.self
  have hA : ∀ q : Nat, s.heap.size ≤ q → (va_A [(h0, .inr (2, [.ref h1, .int (F 1), .int (F 2), .int (F 3), .int (F 4), .int (F 5)])), (h1, .inl (E.2.1 0, 60, .inl N))] s.heap.size) q := fun q h => Or.inr h
  refine mz_start (fun H locs hH hL => ?_)
  have hS : va_S (va_A [(h0, .inr (2, [.ref h1, .int (F 1), .int (F 2), .int (F 3), .int (F 4), .int (F 5)])), (h1, .inl (E.2.1 0, 60, .inl N))] s.heap.size) s.heap H locs := by rw [hH, hL]; exact va_S.rf
  have f_9 := hts (.fieldLink RX2 9 "AvalancheDesk$Region" "numbers" "[I") (by decide +kernel)
  have inX2 : ∀ w ∈ wsX20, w ∈ wsX2_put := by decide +kernel
  have ml_23 := hts (.methodLink RX2 23 Lib.Math.min.name) (by decide +kernel)
  have ms_min := hts (.static Lib.Math.min.name) (by decide +kernel)
  have mi := hts (.initialized "java/lang/Math") (by decide +kernel)
  have mc_min := hts (.code Lib.Math.min.name Lib.Math.min.code 2 (some .int)) (by decide +kernel)
  have hl := lv_entry ([.ref h0, .int (nI sc), .int (nI wn), .int x]) (n := 4) (Nat.le_of_ble_eq_true rfl)
  rw [lg_entry_eq]
  generalize (lg_sl ([.ref h0, .int (nI sc), .int (nI wn), .int x]) ++ List.replicate (4 - (lg_sl ([.ref h0, .int (nI sc), .int (nI wn), .int x])).length) Slot.unset).toArray = ls at hl ⊢
  have hl : lv_has ls 4 [(0, .ref h0), (1, .int (nI sc)), (2, .int (nI wn)), (3, .int x)] := hl
  have hP : va_P E.1 vwCl [(h0, .inr (2, [.ref h1, .int (F 1), .int (F 2), .int (F 3), .int (F 4), .int (F 5)])), (h1, .inl (E.2.1 0, 60, .inl N))] H := by rw [hH]; exact hP
  refine lv_aload_n hx hb dX2_put_0 rfl (lv_at hl 0 rfl) ?_
  refine va_get (D := E.1) (ci := 2) (v := .ref h1) (C := RX2) (T := TX2) (N := 6) hx hb hts inX2 hown hE.1 hP 0 rfl rfl 0 (by decide) f_9 (fun _ h9 => h9) rfl dX2_put_1 ?_
  refine lv_iload_n hx hb dX2_put_4 rfl (lv_at hl 1 rfl) ?_
  refine lv_iconst (v := 5) hx hb dX2_put_5 (by decide) ?_
  refine mz_mulN hx hb sc 5 dX2_put_6 ?_
  refine lv_iload_n hx hb dX2_put_7 rfl (lv_at hl 2 rfl) ?_
  refine mz_addN hx hb (sc * 5) wn dX2_put_8 ?_
  refine lv_iload_n hx hb dX2_put_9 rfl (lv_at hl 3 rfl) ?_
  refine lv_iload_n hx hb dX2_put_10 rfl (lv_at hl 2 rfl) ?_
  refine va_calli (va_runS (As := [.int (nI wn)]) (rest := [.int x, .int (nI ((sc * 5) + wn)), .ref h1]) ⟨hx, hb, hml, hown, hts⟩ (kX2_greatestOf l E (nI wn)) (va_cwS 1 hts gX2_put_X2_greatestOf rfl rfl rfl (by decide +kernel) ⟨Nat.le_of_ble_eq_true rfl, Nat.le_of_ble_eq_true rfl⟩) ⟨fb_0, fun U hU hW => ⟨rfl, trivial⟩⟩ rfl rfl hl.1 rfl (lv_room (Nat.le_of_ble_eq_true rfl)) dX2_put_11 ⟨by first | exact Nat.le_of_ble_eq_true rfl | (show _ ≤ 0; omega), by first | exact Nat.le_of_ble_eq_true rfl | (show _ ≤ 0; omega)⟩) hS (fun q _ h => h.elim) (fun q h => h.elim) (fun r11_0 u t H1 locs ht hvm hw hB hz1 hk1 hS => ?_)
  have hP := hP.ro hk1
  generalize H1 = H at hP hS ⊢
  subst hw
  refine mz_min hx hb (hml.trans hl.1.symm) hown ml_23 ms_min mi mc_min (Nat.le_of_ble_eq_true rfl) (Nat.le_of_ble_eq_true rfl) (by first | exact Nat.le_of_ble_eq_true rfl | (show _ ≤ 0; omega)) (by first | exact Nat.le_of_ble_eq_true rfl | (show _ ≤ 0; omega)) dX2_put_14 ?_
  refine mz_ist hx hb hE.1 hP hD hS 1 0 (f := N) (n := 60) rfl rfl ((sc * 5) + wn) (by omega) (by omega) dX2_put_17 (fun H locs hP hD hS => ?_)
  have hP : va_P E.1 vwCl [(h0, .inr (2, [.ref h1, .int (F 1), .int (F 2), .int (F 3), .int (F 4), .int (F 5)])), (h1, .inl (E.2.1 0, 60, .inl (upd N ((sc * 5) + wn) (mn x (gr (nI wn))))))] H := hP
  have hD : va_D _ [(h0, .inr (2, [.ref h1, .int (F 1), .int (F 2), .int (F 3), .int (F 4), .int (F 5)])), (h1, .inl (E.2.1 0, 60, .inl (upd N ((sc * 5) + wn) (mn x (gr (nI wn))))))] := hD
  have e9_1 : pN N sc wn x = upd N ((sc * 5) + wn) (mn x (gr (nI wn))) := by first | (simp only [pN]; done) | (try unfold pN; rfl) | rfl
  have hB9 : va_P E.1 vwCl [(h0, .inr (2, [.ref h1, .int (F 1), .int (F 2), .int (F 3), .int (F 4), .int (F 5)])), (h1, .inl (E.2.1 0, 60, .inl (pN N sc wn x)))] H := by rw [e9_1]; exact hP
  exact W.vret hx hb hr (fun t ht hW => ⟨⟨(), rfl, trivial, (by subst ht; exact hB9)⟩, hS.F ht⟩) hS.2.2 dX2_put_18
set_option maxHeartbeats 4000000 in
set_option maxRecDepth 100000 in
theorem kX2_grow (l : Launch) (E : ev_T) (h0 : Nat) (h1 : Nat) (F : Nat → Int32) (N : Nat → Int32) (sc : Nat) (wn : Nat) (x : Int32) (sz : Nat) (hs : sc < 12) (hw : wn < 5) : Met l yX2_grow wsX2_grow ({ frames := 2, cells := 0, slots := 0, locals := 43 } : Room) (va_Pc [.ref h0, .int (nI sc), .int (nI wn), .int x] (pr_W E [(h0, .inr (2, [.ref h1, .int (F 1), .int (F 2), .int (F 3), .int (F 4), .int (F 5)])), (h1, .inl (E.2.1 0, 60, .inl N))] sz)) (va_Qv (fun (_ : Unit) => True) (fun _ t => va_P E.1 vwCl [(h0, .inr (2, [.ref h1, .int (F 1), .int (F 2), .int (F 3), .int (F 4), .int (F 5)])), (h1, .inl (E.2.1 0, 60, .inl (gN N sc wn x)))] t.heap) (va_A [(h0, .inr (2, [.ref h1, .int (F 1), .int (F 2), .int (F 3), .int (F 4), .int (F 5)])), (h1, .inl (E.2.1 0, 60, .inl N))] sz)) 0 0 (va_A [(h0, .inr (2, [.ref h1, .int (F 1), .int (F 2), .int (F 3), .int (F 4), .int (F 5)])), (h1, .inl (E.2.1 0, 60, .inl N))] sz) := by
  refine Met.ofW (cc := cX2_grow) (maxL := 4) (ret := none) (by decide) rfl ?_
  intro p e s m args below meth c s₁ B hml hv
  obtain ⟨rfl, hsz, hP, hD0, hE⟩ := hv
  have hx := B.exec
  have hb := B.bytes
  have hr := B.returns
  have hts := atoms_spec (ws := wsX2_grow) B.pre
  have hown : s.vm.findClass RX2 = some m.cls := findClass_of_methodNamed B.named
  have hlocks := B.notSynchronized
  subst hsz
  have hD : va_D (va_A [(h0, .inr (2, [.ref h1, .int (F 1), .int (F 2), .int (F 3), .int (F 4), .int (F 5)])), (h1, .inl (E.2.1 0, 60, .inl N))] s.heap.size) [(h0, .inr (2, [.ref h1, .int (F 1), .int (F 2), .int (F 3), .int (F 4), .int (F 5)])), (h1, .inl (E.2.1 0, 60, .inl N))] := hD0.self
  have hA : ∀ q : Nat, s.heap.size ≤ q → (va_A [(h0, .inr (2, [.ref h1, .int (F 1), .int (F 2), .int (F 3), .int (F 4), .int (F 5)])), (h1, .inl (E.2.1 0, 60, .inl N))] s.heap.size) q := fun q h => Or.inr h
  refine mz_start (fun H locs hH hL => ?_)
  have hS : va_S (va_A [(h0, .inr (2, [.ref h1, .int (F 1), .int (F 2), .int (F 3), .int (F 4), .int (F 5)])), (h1, .inl (E.2.1 0, 60, .inl N))] s.heap.size) s.heap H locs := by rw [hH, hL]; exact va_S.rf
  have hl := lv_entry ([.ref h0, .int (nI sc), .int (nI wn), .int x]) (n := 4) (Nat.le_of_ble_eq_true rfl)
  rw [lg_entry_eq]
  generalize (lg_sl ([.ref h0, .int (nI sc), .int (nI wn), .int x]) ++ List.replicate (4 - (lg_sl ([.ref h0, .int (nI sc), .int (nI wn), .int x])).length) Slot.unset).toArray = ls at hl ⊢
  have hl : lv_has ls 4 [(0, .ref h0), (1, .int (nI sc)), (2, .int (nI wn)), (3, .int x)] := hl
  have hP : va_P E.1 vwCl [(h0, .inr (2, [.ref h1, .int (F 1), .int (F 2), .int (F 3), .int (F 4), .int (F 5)])), (h1, .inl (E.2.1 0, 60, .inl N))] H := by rw [hH]; exact hP
  refine lv_aload_n hx hb dX2_grow_0 rfl (lv_at hl 0 rfl) ?_
  refine lv_iload_n hx hb dX2_grow_1 rfl (lv_at hl 1 rfl) ?_
  refine lv_iload_n hx hb dX2_grow_2 rfl (lv_at hl 2 rfl) ?_
  refine lv_aload_n hx hb dX2_grow_3 rfl (lv_at hl 0 rfl) ?_
  refine lv_iload_n hx hb dX2_grow_4 rfl (lv_at hl 1 rfl) ?_
  refine lv_iload_n hx hb dX2_grow_5 rfl (lv_at hl 2 rfl) ?_
  refine va_calli (va_runV (As := [.int (nI sc), .int (nI wn)]) (rest := [.int (nI wn), .int (nI sc), .ref h0]) ⟨hx, hb, hml, hown, hts⟩ (kX2_numberAt l E h0 h1 F N sc wn (by first | omega | assumption | (intro k h; have := hz k h; omega)) (by first | omega | assumption | (intro k h; have := hz k h; omega))) (cwV 2 hts gX2_grow_X2_numberAt rfl rfl rfl (by decide +kernel) ⟨Nat.le_of_ble_eq_true rfl, Nat.le_of_ble_eq_true rfl⟩) ⟨fb_R, va_recv hE.1 hP (ci := 2) (q0 := 0) rfl rfl, fun U hU hW => ⟨rfl, (by rw [hU]; exact hP), hE.warm hW⟩⟩ rfl rfl hl.1 rfl (lv_room (Nat.le_of_ble_eq_true rfl)) dX2_grow_6 ⟨by first | exact Nat.le_of_ble_eq_true rfl | (show _ ≤ 0; omega), by first | exact Nat.le_of_ble_eq_true rfl | (show _ ≤ 0; omega)⟩) hS (fun q _ h => h.elim) (fun q h => h.elim) (fun r6_0 u t H1 locs ht hvm hw hB hz1 hk1 hS => ?_)
  have hP := hP.ro hk1
  generalize H1 = H at hP hS ⊢
  subst hw
  refine lv_iload_n hx hb dX2_grow_9 rfl (lv_at hl 3 rfl) ?_
  refine lv_iadd hx hb dX2_grow_10 ?_
  have hFc := va_free (wc := [(h0, .inr (2, [.ref h1, .int (F 1), .int (F 2), .int (F 3), .int (F 4), .int (F 5)])), (h1, .inl (E.2.1 0, 60, .inl N))]) hD hS hA [0, 1] rfl
  refine va_callv (va_runV (As := [.int (nI sc), .int (nI wn), .int ((N (sc * 5 + wn)) + x)]) (rest := []) ⟨hx, hb, hml, hown, hts⟩ (kX2_put l E h0 h1 F N sc wn ((N (sc * 5 + wn)) + x) H.size (by first | omega | assumption | (intro k h; have := hz k h; omega)) (by first | omega | assumption | (intro k h; have := hz k h; omega))) (cwV 3 hts gX2_grow_X2_put rfl rfl rfl (by decide +kernel) ⟨Nat.le_of_ble_eq_true rfl, Nat.le_of_ble_eq_true rfl⟩) ⟨fb_W, va_recv hE.1 hP (ci := 2) (q0 := 0) rfl rfl, fun U hU hW => ⟨rfl, by rw [hU], (by rw [hU]; exact hP), hD.weaken (fun _ _ _ _ => trivial), hE.warm hW⟩⟩ rfl rfl hl.1 rfl (lv_room (Nat.le_of_ble_eq_true rfl)) dX2_grow_11 ⟨by first | exact Nat.le_of_ble_eq_true rfl | (show _ ≤ 0; omega), by first | exact Nat.le_of_ble_eq_true rfl | (show _ ≤ 0; omega)⟩) hS (fun q _ h => hFc q h) hFc (fun u t H1 locs ht hvm hw hB hz1 hk1 hS => ?_)
  rw [ht] at hB
  have hP : va_P E.1 vwCl [(h0, .inr (2, [.ref h1, .int (F 1), .int (F 2), .int (F 3), .int (F 4), .int (F 5)])), (h1, .inl (E.2.1 0, 60, .inl (pN N sc wn ((N (sc * 5 + wn)) + x))))] H1 := hB
  have hD := hD.same (ws' := [(h0, .inr (2, [.ref h1, .int (F 1), .int (F 2), .int (F 3), .int (F 4), .int (F 5)])), (h1, .inl (E.2.1 0, 60, .inl (pN N sc wn ((N (sc * 5 + wn)) + x))))]) (by simp only [List.map_cons, List.map_nil])
  generalize H1 = H at hP hS ⊢
  have e9_1 : gN N sc wn x = pN N sc wn ((N (sc * 5 + wn)) + x) := by first | (simp only [gN]; done) | (try unfold gN; rfl) | rfl
  have hB9 : va_P E.1 vwCl [(h0, .inr (2, [.ref h1, .int (F 1), .int (F 2), .int (F 3), .int (F 4), .int (F 5)])), (h1, .inl (E.2.1 0, 60, .inl (gN N sc wn x)))] H := by rw [e9_1]; exact hP
  exact W.vret hx hb hr (fun t ht hW => ⟨⟨(), rfl, trivial, (by subst ht; exact hB9)⟩, hS.F ht⟩) hS.2.2 dX2_grow_14
set_option maxHeartbeats 4000000 in
set_option maxRecDepth 100000 in
theorem kX2_keepPercent (l : Launch) (E : ev_T) (h0 : Nat) (h1 : Nat) (F : Nat → Int32) (N : Nat → Int32) (sc : Nat) (wn : Nat) (x : Int32) (sz : Nat) (hs : sc < 12) (hw : wn < 5) : Met l yX2_keepPercent wsX2_keepPercent ({ frames := 2, cells := 0, slots := 0, locals := 43 } : Room) (va_Pc [.ref h0, .int (nI sc), .int (nI wn), .int x] (pr_W E [(h0, .inr (2, [.ref h1, .int (F 1), .int (F 2), .int (F 3), .int (F 4), .int (F 5)])), (h1, .inl (E.2.1 0, 60, .inl N))] sz)) (va_Qv (fun (_ : Unit) => True) (fun _ t => va_P E.1 vwCl [(h0, .inr (2, [.ref h1, .int (F 1), .int (F 2), .int (F 3), .int (F 4), .int (F 5)])), (h1, .inl (E.2.1 0, 60, .inl (qN N sc wn x)))] t.heap) (va_A [(h0, .inr (2, [.ref h1, .int (F 1), .int (F 2), .int (F 3), .int (F 4), .int (F 5)])), (h1, .inl (E.2.1 0, 60, .inl N))] sz)) 0 0 (va_A [(h0, .inr (2, [.ref h1, .int (F 1), .int (F 2), .int (F 3), .int (F 4), .int (F 5)])), (h1, .inl (E.2.1 0, 60, .inl N))] sz) := by
  refine Met.ofW (cc := cX2_keepPercent) (maxL := 4) (ret := none) (by decide) rfl ?_
  intro p e s m args below meth c s₁ B hml hv
  obtain ⟨rfl, hsz, hP, hD0, hE⟩ := hv
  have hx := B.exec
  have hb := B.bytes
  have hr := B.returns
  have hts := atoms_spec (ws := wsX2_keepPercent) B.pre
  have hown : s.vm.findClass RX2 = some m.cls := findClass_of_methodNamed B.named
  have hlocks := B.notSynchronized
  subst hsz
  have hD : va_D (va_A [(h0, .inr (2, [.ref h1, .int (F 1), .int (F 2), .int (F 3), .int (F 4), .int (F 5)])), (h1, .inl (E.2.1 0, 60, .inl N))] s.heap.size) [(h0, .inr (2, [.ref h1, .int (F 1), .int (F 2), .int (F 3), .int (F 4), .int (F 5)])), (h1, .inl (E.2.1 0, 60, .inl N))] := hD0.self
  have hA : ∀ q : Nat, s.heap.size ≤ q → (va_A [(h0, .inr (2, [.ref h1, .int (F 1), .int (F 2), .int (F 3), .int (F 4), .int (F 5)])), (h1, .inl (E.2.1 0, 60, .inl N))] s.heap.size) q := fun q h => Or.inr h
  refine mz_start (fun H locs hH hL => ?_)
  have hS : va_S (va_A [(h0, .inr (2, [.ref h1, .int (F 1), .int (F 2), .int (F 3), .int (F 4), .int (F 5)])), (h1, .inl (E.2.1 0, 60, .inl N))] s.heap.size) s.heap H locs := by rw [hH, hL]; exact va_S.rf
  have hl := lv_entry ([.ref h0, .int (nI sc), .int (nI wn), .int x]) (n := 4) (Nat.le_of_ble_eq_true rfl)
  rw [lg_entry_eq]
  generalize (lg_sl ([.ref h0, .int (nI sc), .int (nI wn), .int x]) ++ List.replicate (4 - (lg_sl ([.ref h0, .int (nI sc), .int (nI wn), .int x])).length) Slot.unset).toArray = ls at hl ⊢
  have hl : lv_has ls 4 [(0, .ref h0), (1, .int (nI sc)), (2, .int (nI wn)), (3, .int x)] := hl
  have hP : va_P E.1 vwCl [(h0, .inr (2, [.ref h1, .int (F 1), .int (F 2), .int (F 3), .int (F 4), .int (F 5)])), (h1, .inl (E.2.1 0, 60, .inl N))] H := by rw [hH]; exact hP
  refine lv_aload_n hx hb dX2_keepPercent_0 rfl (lv_at hl 0 rfl) ?_
  refine lv_iload_n hx hb dX2_keepPercent_1 rfl (lv_at hl 1 rfl) ?_
  refine lv_iload_n hx hb dX2_keepPercent_2 rfl (lv_at hl 2 rfl) ?_
  refine lv_aload_n hx hb dX2_keepPercent_3 rfl (lv_at hl 0 rfl) ?_
  refine lv_iload_n hx hb dX2_keepPercent_4 rfl (lv_at hl 1 rfl) ?_
  refine lv_iload_n hx hb dX2_keepPercent_5 rfl (lv_at hl 2 rfl) ?_
  refine va_calli (va_runV (As := [.int (nI sc), .int (nI wn)]) (rest := [.int (nI wn), .int (nI sc), .ref h0]) ⟨hx, hb, hml, hown, hts⟩ (kX2_numberAt l E h0 h1 F N sc wn (by first | omega | assumption | (intro k h; have := hz k h; omega)) (by first | omega | assumption | (intro k h; have := hz k h; omega))) (cwV 2 hts gX2_keepPercent_X2_numberAt rfl rfl rfl (by decide +kernel) ⟨Nat.le_of_ble_eq_true rfl, Nat.le_of_ble_eq_true rfl⟩) ⟨fb_R, va_recv hE.1 hP (ci := 2) (q0 := 0) rfl rfl, fun U hU hW => ⟨rfl, (by rw [hU]; exact hP), hE.warm hW⟩⟩ rfl rfl hl.1 rfl (lv_room (Nat.le_of_ble_eq_true rfl)) dX2_keepPercent_6 ⟨by first | exact Nat.le_of_ble_eq_true rfl | (show _ ≤ 0; omega), by first | exact Nat.le_of_ble_eq_true rfl | (show _ ≤ 0; omega)⟩) hS (fun q _ h => h.elim) (fun q h => h.elim) (fun r6_0 u t H1 locs ht hvm hw hB hz1 hk1 hS => ?_)
  have hP := hP.ro hk1
  generalize H1 = H at hP hS ⊢
  subst hw
  refine lv_iload_n hx hb dX2_keepPercent_9 rfl (lv_at hl 3 rfl) ?_
  refine lv_imul hx hb dX2_keepPercent_10 ?_
  refine lv_bipush (v := 100) hx hb dX2_keepPercent_11 (by decide) ?_
  refine lv_idiv hx hb dX2_keepPercent_13 (by decide) ?_
  have hFc := va_free (wc := [(h0, .inr (2, [.ref h1, .int (F 1), .int (F 2), .int (F 3), .int (F 4), .int (F 5)])), (h1, .inl (E.2.1 0, 60, .inl N))]) hD hS hA [0, 1] rfl
  refine va_callv (va_runV (As := [.int (nI sc), .int (nI wn), .int (((N (sc * 5 + wn)) * x) / 100)]) (rest := []) ⟨hx, hb, hml, hown, hts⟩ (kX2_put l E h0 h1 F N sc wn (((N (sc * 5 + wn)) * x) / 100) H.size (by first | omega | assumption | (intro k h; have := hz k h; omega)) (by first | omega | assumption | (intro k h; have := hz k h; omega))) (cwV 3 hts gX2_keepPercent_X2_put rfl rfl rfl (by decide +kernel) ⟨Nat.le_of_ble_eq_true rfl, Nat.le_of_ble_eq_true rfl⟩) ⟨fb_W, va_recv hE.1 hP (ci := 2) (q0 := 0) rfl rfl, fun U hU hW => ⟨rfl, by rw [hU], (by rw [hU]; exact hP), hD.weaken (fun _ _ _ _ => trivial), hE.warm hW⟩⟩ rfl rfl hl.1 rfl (lv_room (Nat.le_of_ble_eq_true rfl)) dX2_keepPercent_14 ⟨by first | exact Nat.le_of_ble_eq_true rfl | (show _ ≤ 0; omega), by first | exact Nat.le_of_ble_eq_true rfl | (show _ ≤ 0; omega)⟩) hS (fun q _ h => hFc q h) hFc (fun u t H1 locs ht hvm hw hB hz1 hk1 hS => ?_)
  rw [ht] at hB
  have hP : va_P E.1 vwCl [(h0, .inr (2, [.ref h1, .int (F 1), .int (F 2), .int (F 3), .int (F 4), .int (F 5)])), (h1, .inl (E.2.1 0, 60, .inl (pN N sc wn (((N (sc * 5 + wn)) * x) / 100))))] H1 := hB
  have hD := hD.same (ws' := [(h0, .inr (2, [.ref h1, .int (F 1), .int (F 2), .int (F 3), .int (F 4), .int (F 5)])), (h1, .inl (E.2.1 0, 60, .inl (pN N sc wn (((N (sc * 5 + wn)) * x) / 100))))]) (by simp only [List.map_cons, List.map_nil])
  generalize H1 = H at hP hS ⊢
  have e9_1 : qN N sc wn x = pN N sc wn (((N (sc * 5 + wn)) * x) / 100) := by first | (simp only [qN]; done) | (try unfold qN; rfl) | rfl
  have hB9 : va_P E.1 vwCl [(h0, .inr (2, [.ref h1, .int (F 1), .int (F 2), .int (F 3), .int (F 4), .int (F 5)])), (h1, .inl (E.2.1 0, 60, .inl (qN N sc wn x)))] H := by rw [e9_1]; exact hP
  exact W.vret hx hb hr (fun t ht hW => ⟨⟨(), rfl, trivial, (by subst ht; exact hB9)⟩, hS.F ht⟩) hS.2.2 dX2_keepPercent_17
set_option maxHeartbeats 4000000 in
set_option maxRecDepth 100000 in
theorem kX2_tellWeather (l : Launch) (E : ev_T) (h0 : Nat) (h1 : Nat) (F : Nat → Int32) (N : Nat → Int32) (xa : Int32) (xb : Int32) (xc : Int32) (xd : Int32) (sz : Nat) : Met l yX2_tellWeather wsX2_tellWeather ({ frames := 0, cells := 0, slots := 0, locals := 0 } : Room) (va_Pc [.ref h0, .int xa, .int xb, .int xc, .int xd] (pr_W E [(h0, .inr (2, [.ref h1, .int (F 1), .int (F 2), .int (F 3), .int (F 4), .int (F 5)])), (h1, .inl (E.2.1 0, 60, .inl N))] sz)) (va_Qv (fun (_ : Unit) => True) (fun _ t => va_P E.1 vwCl [(h0, .inr (2, [.ref h1, .int ((fF 1 xa xb xc xd) 1), .int ((fF 1 xa xb xc xd) 2), .int ((fF 1 xa xb xc xd) 3), .int ((fF 1 xa xb xc xd) 4), .int ((fF 1 xa xb xc xd) 5)])), (h1, .inl (E.2.1 0, 60, .inl N))] t.heap) (va_A [(h0, .inr (2, [.ref h1, .int (F 1), .int (F 2), .int (F 3), .int (F 4), .int (F 5)])), (h1, .inl (E.2.1 0, 60, .inl N))] sz)) 0 0 (va_A [(h0, .inr (2, [.ref h1, .int (F 1), .int (F 2), .int (F 3), .int (F 4), .int (F 5)])), (h1, .inl (E.2.1 0, 60, .inl N))] sz) := by
  refine Met.ofW (cc := cX2_tellWeather) (maxL := 5) (ret := none) (by decide) rfl ?_
  intro p e s m args below meth c s₁ B hml hv
  obtain ⟨rfl, hsz, hP, hD0, hE⟩ := hv
  have hx := B.exec
  have hb := B.bytes
  have hr := B.returns
  have hts := atoms_spec (ws := wsX2_tellWeather) B.pre
  have hown : s.vm.findClass RX2 = some m.cls := findClass_of_methodNamed B.named
  have hlocks := B.notSynchronized
  subst hsz
  have hD : va_D (va_A [(h0, .inr (2, [.ref h1, .int (F 1), .int (F 2), .int (F 3), .int (F 4), .int (F 5)])), (h1, .inl (E.2.1 0, 60, .inl N))] s.heap.size) [(h0, .inr (2, [.ref h1, .int (F 1), .int (F 2), .int (F 3), .int (F 4), .int (F 5)])), (h1, .inl (E.2.1 0, 60, .inl N))] := hD0.self
  have hA : ∀ q : Nat, s.heap.size ≤ q → (va_A [(h0, .inr (2, [.ref h1, .int (F 1), .int (F 2), .int (F 3), .int (F 4), .int (F 5)])), (h1, .inl (E.2.1 0, 60, .inl N))] s.heap.size) q := fun q h => Or.inr h
  refine mz_start (fun H locs hH hL => ?_)
  have hS : va_S (va_A [(h0, .inr (2, [.ref h1, .int (F 1), .int (F 2), .int (F 3), .int (F 4), .int (F 5)])), (h1, .inl (E.2.1 0, 60, .inl N))] s.heap.size) s.heap H locs := by rw [hH, hL]; exact va_S.rf
  have f_35 := hts (.fieldLink RX2 35 "AvalancheDesk$Region" "isWeatherTold" "Z") (by decide +kernel)
  have inX2 : ∀ w ∈ wsX20, w ∈ wsX2_tellWeather := by decide +kernel
  have f_39 := hts (.fieldLink RX2 39 "AvalancheDesk$Region" "snow" "I") (by decide +kernel)
  have f_42 := hts (.fieldLink RX2 42 "AvalancheDesk$Region" "wind" "I") (by decide +kernel)
  have f_45 := hts (.fieldLink RX2 45 "AvalancheDesk$Region" "from" "I") (by decide +kernel)
  have f_15 := hts (.fieldLink RX2 15 "AvalancheDesk$Region" "temperature" "I") (by decide +kernel)
  have hl := lv_entry ([.ref h0, .int xa, .int xb, .int xc, .int xd]) (n := 5) (Nat.le_of_ble_eq_true rfl)
  rw [lg_entry_eq]
  generalize (lg_sl ([.ref h0, .int xa, .int xb, .int xc, .int xd]) ++ List.replicate (5 - (lg_sl ([.ref h0, .int xa, .int xb, .int xc, .int xd])).length) Slot.unset).toArray = ls at hl ⊢
  have hl : lv_has ls 5 [(0, .ref h0), (1, .int xa), (2, .int xb), (3, .int xc), (4, .int xd)] := hl
  have hP : va_P E.1 vwCl [(h0, .inr (2, [.ref h1, .int (F 1), .int (F 2), .int (F 3), .int (F 4), .int (F 5)])), (h1, .inl (E.2.1 0, 60, .inl N))] H := by rw [hH]; exact hP
  refine lv_aload_n hx hb dX2_tellWeather_0 rfl (lv_at hl 0 rfl) ?_
  refine lv_iconst (v := 1) hx hb dX2_tellWeather_1 (by decide) ?_
  refine va_put (D := E.1) (ci := 2) (v := .int 1) (ty := .boolean) (C := RX2) (T := TX2) (N := 6) hx hb hts inX2 tyX2 tyX2_ok nmX2 hown hE.1 hP hD hS 0 rfl rfl 1 (by decide) f_35 (fun _ h9 => h9) rfl (by decide +kernel) (rfl) rfl (Nat.le_of_ble_eq_true rfl) dX2_tellWeather_2 (fun H locs hP hD hS => ?_)
  have hP : va_P E.1 vwCl [(h0, .inr (2, [.ref h1, .int 1, .int (F 2), .int (F 3), .int (F 4), .int (F 5)])), (h1, .inl (E.2.1 0, 60, .inl N))] H := hP
  have hD : va_D _ [(h0, .inr (2, [.ref h1, .int 1, .int (F 2), .int (F 3), .int (F 4), .int (F 5)])), (h1, .inl (E.2.1 0, 60, .inl N))] := hD
  refine lv_aload_n hx hb dX2_tellWeather_5 rfl (lv_at hl 0 rfl) ?_
  refine lv_iload_n hx hb dX2_tellWeather_6 rfl (lv_at hl 1 rfl) ?_
  refine va_put (D := E.1) (ci := 2) (v := .int xa) (ty := .int) (C := RX2) (T := TX2) (N := 6) hx hb hts inX2 tyX2 tyX2_ok nmX2 hown hE.1 hP hD hS 0 rfl rfl 2 (by decide) f_39 (fun _ h9 => h9) rfl (by decide +kernel) rfl rfl (Nat.le_of_ble_eq_true rfl) dX2_tellWeather_7 (fun H locs hP hD hS => ?_)
  have hP : va_P E.1 vwCl [(h0, .inr (2, [.ref h1, .int 1, .int xa, .int (F 3), .int (F 4), .int (F 5)])), (h1, .inl (E.2.1 0, 60, .inl N))] H := hP
  have hD : va_D _ [(h0, .inr (2, [.ref h1, .int 1, .int xa, .int (F 3), .int (F 4), .int (F 5)])), (h1, .inl (E.2.1 0, 60, .inl N))] := hD
  refine lv_aload_n hx hb dX2_tellWeather_10 rfl (lv_at hl 0 rfl) ?_
  refine lv_iload_n hx hb dX2_tellWeather_11 rfl (lv_at hl 2 rfl) ?_
  refine va_put (D := E.1) (ci := 2) (v := .int xb) (ty := .int) (C := RX2) (T := TX2) (N := 6) hx hb hts inX2 tyX2 tyX2_ok nmX2 hown hE.1 hP hD hS 0 rfl rfl 3 (by decide) f_42 (fun _ h9 => h9) rfl (by decide +kernel) rfl rfl (Nat.le_of_ble_eq_true rfl) dX2_tellWeather_12 (fun H locs hP hD hS => ?_)
  have hP : va_P E.1 vwCl [(h0, .inr (2, [.ref h1, .int 1, .int xa, .int xb, .int (F 4), .int (F 5)])), (h1, .inl (E.2.1 0, 60, .inl N))] H := hP
  have hD : va_D _ [(h0, .inr (2, [.ref h1, .int 1, .int xa, .int xb, .int (F 4), .int (F 5)])), (h1, .inl (E.2.1 0, 60, .inl N))] := hD
  refine lv_aload_n hx hb dX2_tellWeather_15 rfl (lv_at hl 0 rfl) ?_
  refine lv_iload_n hx hb dX2_tellWeather_16 rfl (lv_at hl 3 rfl) ?_
  refine va_put (D := E.1) (ci := 2) (v := .int xc) (ty := .int) (C := RX2) (T := TX2) (N := 6) hx hb hts inX2 tyX2 tyX2_ok nmX2 hown hE.1 hP hD hS 0 rfl rfl 4 (by decide) f_45 (fun _ h9 => h9) rfl (by decide +kernel) rfl rfl (Nat.le_of_ble_eq_true rfl) dX2_tellWeather_17 (fun H locs hP hD hS => ?_)
  have hP : va_P E.1 vwCl [(h0, .inr (2, [.ref h1, .int 1, .int xa, .int xb, .int xc, .int (F 5)])), (h1, .inl (E.2.1 0, 60, .inl N))] H := hP
  have hD : va_D _ [(h0, .inr (2, [.ref h1, .int 1, .int xa, .int xb, .int xc, .int (F 5)])), (h1, .inl (E.2.1 0, 60, .inl N))] := hD
  refine lv_aload_n hx hb dX2_tellWeather_20 rfl (lv_at hl 0 rfl) ?_
  refine lv_iload hx hb dX2_tellWeather_21 (lv_at hl 4 rfl) ?_
  refine va_put (D := E.1) (ci := 2) (v := .int xd) (ty := .int) (C := RX2) (T := TX2) (N := 6) hx hb hts inX2 tyX2 tyX2_ok nmX2 hown hE.1 hP hD hS 0 rfl rfl 5 (by decide) f_15 (fun _ h9 => h9) rfl (by decide +kernel) rfl rfl (Nat.le_of_ble_eq_true rfl) dX2_tellWeather_23 (fun H locs hP hD hS => ?_)
  have hP : va_P E.1 vwCl [(h0, .inr (2, [.ref h1, .int 1, .int xa, .int xb, .int xc, .int xd])), (h1, .inl (E.2.1 0, 60, .inl N))] H := hP
  have hD : va_D _ [(h0, .inr (2, [.ref h1, .int 1, .int xa, .int xb, .int xc, .int xd])), (h1, .inl (E.2.1 0, 60, .inl N))] := hD
  have e9_0_1 : (fF 1 xa xb xc xd) 1 = 1 := by first | rfl
  have e9_0_2 : (fF 1 xa xb xc xd) 2 = xa := by first | rfl
  have e9_0_3 : (fF 1 xa xb xc xd) 3 = xb := by first | rfl
  have e9_0_4 : (fF 1 xa xb xc xd) 4 = xc := by first | rfl
  have e9_0_5 : (fF 1 xa xb xc xd) 5 = xd := by first | rfl
  have hB9 : va_P E.1 vwCl [(h0, .inr (2, [.ref h1, .int ((fF 1 xa xb xc xd) 1), .int ((fF 1 xa xb xc xd) 2), .int ((fF 1 xa xb xc xd) 3), .int ((fF 1 xa xb xc xd) 4), .int ((fF 1 xa xb xc xd) 5)])), (h1, .inl (E.2.1 0, 60, .inl N))] H := by rw [e9_0_1, e9_0_2, e9_0_3, e9_0_4, e9_0_5]; exact hP
  exact W.vret hx hb hr (fun t ht hW => ⟨⟨(), rfl, trivial, (by subst ht; exact hB9)⟩, hS.F ht⟩) hS.2.2 dX2_tellWeather_26
set_option maxHeartbeats 4000000 in
set_option maxRecDepth 100000 in
theorem kX2_forgetWeather (l : Launch) (E : ev_T) (h0 : Nat) (h1 : Nat) (F : Nat → Int32) (N : Nat → Int32) (sz : Nat) : Met l yX2_forgetWeather wsX2_forgetWeather ({ frames := 1, cells := 0, slots := 0, locals := 24 } : Room) (va_Pc [.ref h0] (pr_W E [(h0, .inr (2, [.ref h1, .int (F 1), .int (F 2), .int (F 3), .int (F 4), .int (F 5)])), (h1, .inl (E.2.1 0, 60, .inl N))] sz)) (va_Qv (fun (_ : Unit) => True) (fun _ t => va_P E.1 vwCl [(h0, .inr (2, [.ref h1, .int ((fF 0 0 0 0 (-5)) 1), .int ((fF 0 0 0 0 (-5)) 2), .int ((fF 0 0 0 0 (-5)) 3), .int ((fF 0 0 0 0 (-5)) 4), .int ((fF 0 0 0 0 (-5)) 5)])), (h1, .inl (E.2.1 0, 60, .inl N))] t.heap) (va_A [(h0, .inr (2, [.ref h1, .int (F 1), .int (F 2), .int (F 3), .int (F 4), .int (F 5)])), (h1, .inl (E.2.1 0, 60, .inl N))] sz)) 0 0 (va_A [(h0, .inr (2, [.ref h1, .int (F 1), .int (F 2), .int (F 3), .int (F 4), .int (F 5)])), (h1, .inl (E.2.1 0, 60, .inl N))] sz) := by
  refine Met.ofW (cc := cX2_forgetWeather) (maxL := 1) (ret := none) (by decide) rfl ?_
  intro p e s m args below meth c s₁ B hml hv
  obtain ⟨rfl, hsz, hP, hD0, hE⟩ := hv
  have hx := B.exec
  have hb := B.bytes
  have hr := B.returns
  have hts := atoms_spec (ws := wsX2_forgetWeather) B.pre
  have hown : s.vm.findClass RX2 = some m.cls := findClass_of_methodNamed B.named
  have hlocks := B.notSynchronized
  subst hsz
  have hD : va_D (va_A [(h0, .inr (2, [.ref h1, .int (F 1), .int (F 2), .int (F 3), .int (F 4), .int (F 5)])), (h1, .inl (E.2.1 0, 60, .inl N))] s.heap.size) [(h0, .inr (2, [.ref h1, .int (F 1), .int (F 2), .int (F 3), .int (F 4), .int (F 5)])), (h1, .inl (E.2.1 0, 60, .inl N))] := hD0.self
  have hA : ∀ q : Nat, s.heap.size ≤ q → (va_A [(h0, .inr (2, [.ref h1, .int (F 1), .int (F 2), .int (F 3), .int (F 4), .int (F 5)])), (h1, .inl (E.2.1 0, 60, .inl N))] s.heap.size) q := fun q h => Or.inr h
  refine mz_start (fun H locs hH hL => ?_)
  have hS : va_S (va_A [(h0, .inr (2, [.ref h1, .int (F 1), .int (F 2), .int (F 3), .int (F 4), .int (F 5)])), (h1, .inl (E.2.1 0, 60, .inl N))] s.heap.size) s.heap H locs := by rw [hH, hL]; exact va_S.rf
  have f_35 := hts (.fieldLink RX2 35 "AvalancheDesk$Region" "isWeatherTold" "Z") (by decide +kernel)
  have inX2 : ∀ w ∈ wsX20, w ∈ wsX2_forgetWeather := by decide +kernel
  have hl := lv_entry ([.ref h0]) (n := 1) (Nat.le_of_ble_eq_true rfl)
  rw [lg_entry_eq]
  generalize (lg_sl ([.ref h0]) ++ List.replicate (1 - (lg_sl ([.ref h0])).length) Slot.unset).toArray = ls at hl ⊢
  have hl : lv_has ls 1 [(0, .ref h0)] := hl
  have hP : va_P E.1 vwCl [(h0, .inr (2, [.ref h1, .int (F 1), .int (F 2), .int (F 3), .int (F 4), .int (F 5)])), (h1, .inl (E.2.1 0, 60, .inl N))] H := by rw [hH]; exact hP
  refine lv_aload_n hx hb dX2_forgetWeather_0 rfl (lv_at hl 0 rfl) ?_
  refine lv_iconst (v := 0) hx hb dX2_forgetWeather_1 (by decide) ?_
  refine lv_iconst (v := 0) hx hb dX2_forgetWeather_2 (by decide) ?_
  refine lv_iconst (v := 0) hx hb dX2_forgetWeather_3 (by decide) ?_
  refine lv_bipush (v := (-5)) hx hb dX2_forgetWeather_4 (by decide) ?_
  have hFc := va_free (wc := [(h0, .inr (2, [.ref h1, .int (F 1), .int (F 2), .int (F 3), .int (F 4), .int (F 5)])), (h1, .inl (E.2.1 0, 60, .inl N))]) hD hS hA [0, 1] rfl
  refine va_callv (va_runV (As := [.int 0, .int 0, .int 0, .int (-5)]) (rest := []) ⟨hx, hb, hml, hown, hts⟩ (kX2_tellWeather l E h0 h1 F N 0 0 0 (-5) H.size) (cwV 4 hts gX2_forgetWeather_X2_tellWeather rfl rfl rfl (by decide +kernel) ⟨Nat.le_of_ble_eq_true rfl, Nat.le_of_ble_eq_true rfl⟩) ⟨fb_W, va_recv hE.1 hP (ci := 2) (q0 := 0) rfl rfl, fun U hU hW => ⟨rfl, by rw [hU], (by rw [hU]; exact hP), hD.weaken (fun _ _ _ _ => trivial), hE.warm hW⟩⟩ rfl rfl hl.1 rfl (lv_room (Nat.le_of_ble_eq_true rfl)) dX2_forgetWeather_6 ⟨by first | exact Nat.le_of_ble_eq_true rfl | (show _ ≤ 0; omega), by first | exact Nat.le_of_ble_eq_true rfl | (show _ ≤ 0; omega)⟩) hS (fun q _ h => hFc q h) hFc (fun u t H1 locs ht hvm hw hB hz1 hk1 hS => ?_)
  rw [ht] at hB
  have hP : va_P E.1 vwCl [(h0, .inr (2, [.ref h1, .int ((fF 1 0 0 0 (-5)) 1), .int ((fF 1 0 0 0 (-5)) 2), .int ((fF 1 0 0 0 (-5)) 3), .int ((fF 1 0 0 0 (-5)) 4), .int ((fF 1 0 0 0 (-5)) 5)])), (h1, .inl (E.2.1 0, 60, .inl N))] H1 := hB
  have hD := hD.same (ws' := [(h0, .inr (2, [.ref h1, .int ((fF 1 0 0 0 (-5)) 1), .int ((fF 1 0 0 0 (-5)) 2), .int ((fF 1 0 0 0 (-5)) 3), .int ((fF 1 0 0 0 (-5)) 4), .int ((fF 1 0 0 0 (-5)) 5)])), (h1, .inl (E.2.1 0, 60, .inl N))]) (by simp only [List.map_cons, List.map_nil])
  generalize H1 = H at hP hS ⊢
  refine lv_aload_n hx hb dX2_forgetWeather_9 rfl (lv_at hl 0 rfl) ?_
  refine lv_iconst (v := 0) hx hb dX2_forgetWeather_10 (by decide) ?_
  refine va_put (D := E.1) (ci := 2) (v := .int 0) (ty := .boolean) (C := RX2) (T := TX2) (N := 6) hx hb hts inX2 tyX2 tyX2_ok nmX2 hown hE.1 hP hD hS 0 rfl rfl 1 (by decide) f_35 (fun _ h9 => h9) rfl (by decide +kernel) (rfl) rfl (Nat.le_of_ble_eq_true rfl) dX2_forgetWeather_11 (fun H locs hP hD hS => ?_)
  have hP : va_P E.1 vwCl [(h0, .inr (2, [.ref h1, .int 0, .int ((fF 1 0 0 0 (-5)) 2), .int ((fF 1 0 0 0 (-5)) 3), .int ((fF 1 0 0 0 (-5)) 4), .int ((fF 1 0 0 0 (-5)) 5)])), (h1, .inl (E.2.1 0, 60, .inl N))] H := hP
  have hD : va_D _ [(h0, .inr (2, [.ref h1, .int 0, .int ((fF 1 0 0 0 (-5)) 2), .int ((fF 1 0 0 0 (-5)) 3), .int ((fF 1 0 0 0 (-5)) 4), .int ((fF 1 0 0 0 (-5)) 5)])), (h1, .inl (E.2.1 0, 60, .inl N))] := hD
  have e9_0_1 : (fF 0 0 0 0 (-5)) 1 = 0 := by first | rfl
  have e9_0_2 : (fF 0 0 0 0 (-5)) 2 = (fF 1 0 0 0 (-5)) 2 := by first | rfl
  have e9_0_3 : (fF 0 0 0 0 (-5)) 3 = (fF 1 0 0 0 (-5)) 3 := by first | rfl
  have e9_0_4 : (fF 0 0 0 0 (-5)) 4 = (fF 1 0 0 0 (-5)) 4 := by first | rfl
  have e9_0_5 : (fF 0 0 0 0 (-5)) 5 = (fF 1 0 0 0 (-5)) 5 := by first | rfl
  have hB9 : va_P E.1 vwCl [(h0, .inr (2, [.ref h1, .int ((fF 0 0 0 0 (-5)) 1), .int ((fF 0 0 0 0 (-5)) 2), .int ((fF 0 0 0 0 (-5)) 3), .int ((fF 0 0 0 0 (-5)) 4), .int ((fF 0 0 0 0 (-5)) 5)])), (h1, .inl (E.2.1 0, 60, .inl N))] H := by rw [e9_0_1, e9_0_2, e9_0_3, e9_0_4, e9_0_5]; exact hP
  exact W.vret hx hb hr (fun t ht hW => ⟨⟨(), rfl, trivial, (by subst ht; exact hB9)⟩, hS.F ht⟩) hS.2.2 dX2_forgetWeather_14
set_option maxHeartbeats 4000000 in
set_option maxRecDepth 100000 in
theorem kX2_settle (l : Launch) (E : ev_T) (h0 : Nat) (h1 : Nat) (F : Nat → Int32) (N : Nat → Int32) (sc : Nat) (tt : Int32) (ff : Int32) (sz : Nat) (hs : sc < 12) : Met l yX2_settle wsX2_settle ({ frames := 3, cells := 0, slots := 0, locals := 66 } : Room) (va_Pc [.ref h0, .int (nI sc), .int tt, .int ff] (pr_W E [(h0, .inr (2, [.ref h1, .int (F 1), .int (F 2), .int (F 3), .int (F 4), .int (F 5)])), (h1, .inl (E.2.1 0, 60, .inl N))] sz)) (va_Qv (fun (_ : Unit) => True) (fun _ t => va_P E.1 vwCl [(h0, .inr (2, [.ref h1, .int (F 1), .int (F 2), .int (F 3), .int (F 4), .int (F 5)])), (h1, .inl (E.2.1 0, 60, .inl (settleN N sc tt ff (F 2))))] t.heap) (va_A [(h0, .inr (2, [.ref h1, .int (F 1), .int (F 2), .int (F 3), .int (F 4), .int (F 5)])), (h1, .inl (E.2.1 0, 60, .inl N))] sz)) 0 0 (va_A [(h0, .inr (2, [.ref h1, .int (F 1), .int (F 2), .int (F 3), .int (F 4), .int (F 5)])), (h1, .inl (E.2.1 0, 60, .inl N))] sz) := by
  refine Met.ofW (cc := cX2_settle) (maxL := 4) (ret := none) (by decide) rfl ?_
  intro p e s m args below meth c s₁ B hml hv
  obtain ⟨rfl, hsz, hP, hD0, hE⟩ := hv
  have hx := B.exec
  have hb := B.bytes
  have hr := B.returns
  have hts := atoms_spec (ws := wsX2_settle) B.pre
  have hown : s.vm.findClass RX2 = some m.cls := findClass_of_methodNamed B.named
  have hlocks := B.notSynchronized
  subst hsz
  have hD : va_D (va_A [(h0, .inr (2, [.ref h1, .int (F 1), .int (F 2), .int (F 3), .int (F 4), .int (F 5)])), (h1, .inl (E.2.1 0, 60, .inl N))] s.heap.size) [(h0, .inr (2, [.ref h1, .int (F 1), .int (F 2), .int (F 3), .int (F 4), .int (F 5)])), (h1, .inl (E.2.1 0, 60, .inl N))] := hD0.self
  have hA : ∀ q : Nat, s.heap.size ≤ q → (va_A [(h0, .inr (2, [.ref h1, .int (F 1), .int (F 2), .int (F 3), .int (F 4), .int (F 5)])), (h1, .inl (E.2.1 0, 60, .inl N))] s.heap.size) q := fun q h => Or.inr h
  refine mz_start (fun H locs hH hL => ?_)
  have hS : va_S (va_A [(h0, .inr (2, [.ref h1, .int (F 1), .int (F 2), .int (F 3), .int (F 4), .int (F 5)])), (h1, .inl (E.2.1 0, 60, .inl N))] s.heap.size) s.heap H locs := by rw [hH, hL]; exact va_S.rf
  have f_39 := hts (.fieldLink RX2 39 "AvalancheDesk$Region" "snow" "I") (by decide +kernel)
  have inX2 : ∀ w ∈ wsX20, w ∈ wsX2_settle := by decide +kernel
  have hl := lv_entry ([.ref h0, .int (nI sc), .int tt, .int ff]) (n := 4) (Nat.le_of_ble_eq_true rfl)
  rw [lg_entry_eq]
  generalize (lg_sl ([.ref h0, .int (nI sc), .int tt, .int ff]) ++ List.replicate (4 - (lg_sl ([.ref h0, .int (nI sc), .int tt, .int ff])).length) Slot.unset).toArray = ls at hl ⊢
  have hl : lv_has ls 4 [(0, .ref h0), (1, .int (nI sc)), (2, .int tt), (3, .int ff)] := hl
  have hP : va_P E.1 vwCl [(h0, .inr (2, [.ref h1, .int (F 1), .int (F 2), .int (F 3), .int (F 4), .int (F 5)])), (h1, .inl (E.2.1 0, 60, .inl N))] H := by rw [hH]; exact hP
  refine lv_aload_n hx hb dX2_settle_0 rfl (lv_at hl 0 rfl) ?_
  refine lv_iload_n hx hb dX2_settle_1 rfl (lv_at hl 1 rfl) ?_
  refine lv_iconst (v := 0) hx hb dX2_settle_2 (by decide) ?_
  refine lv_aload_n hx hb dX2_settle_3 rfl (lv_at hl 0 rfl) ?_
  refine lv_iload_n hx hb dX2_settle_4 rfl (lv_at hl 1 rfl) ?_
  refine lv_iconst (v := 0) hx hb dX2_settle_5 (by decide) ?_
  refine va_calli (va_runV (As := [.int (nI sc), .int 0]) (rest := [.int 0, .int (nI sc), .ref h0]) ⟨hx, hb, hml, hown, hts⟩ (kX2_numberAt l E h0 h1 F N sc 0 (by first | omega | assumption | (intro k h; have := hz k h; omega)) (by first | omega | assumption | (intro k h; have := hz k h; omega))) (cwV 2 hts gX2_settle_X2_numberAt rfl rfl rfl (by decide +kernel) ⟨Nat.le_of_ble_eq_true rfl, Nat.le_of_ble_eq_true rfl⟩) ⟨fb_R, va_recv hE.1 hP (ci := 2) (q0 := 0) rfl rfl, fun U hU hW => ⟨rfl, (by rw [hU]; exact hP), hE.warm hW⟩⟩ rfl rfl hl.1 rfl (lv_room (Nat.le_of_ble_eq_true rfl)) dX2_settle_6 ⟨by first | exact Nat.le_of_ble_eq_true rfl | (show _ ≤ 0; omega), by first | exact Nat.le_of_ble_eq_true rfl | (show _ ≤ 0; omega)⟩) hS (fun q _ h => h.elim) (fun q h => h.elim) (fun r6_0 u t H1 locs ht hvm hw hB hz1 hk1 hS => ?_)
  have hP := hP.ro hk1
  generalize H1 = H at hP hS ⊢
  subst hw
  refine lv_bipush (v := 6) hx hb dX2_settle_9 (by decide) ?_
  refine lv_imul hx hb dX2_settle_11 ?_
  refine lv_bipush (v := 10) hx hb dX2_settle_12 (by decide) ?_
  refine lv_idiv hx hb dX2_settle_14 (by decide) ?_
  refine lv_iload_n hx hb dX2_settle_15 rfl (lv_at hl 3 rfl) ?_
  refine lv_iadd hx hb dX2_settle_16 ?_
  have hFc := va_free (wc := [(h0, .inr (2, [.ref h1, .int (F 1), .int (F 2), .int (F 3), .int (F 4), .int (F 5)])), (h1, .inl (E.2.1 0, 60, .inl N))]) hD hS hA [0, 1] rfl
  refine va_callv (va_runV (As := [.int (nI sc), .int 0, .int ((((N (sc * 5 + 0)) * 6) / 10) + ff)]) (rest := []) ⟨hx, hb, hml, hown, hts⟩ (kX2_put l E h0 h1 F N sc 0 ((((N (sc * 5 + 0)) * 6) / 10) + ff) H.size (by first | omega | assumption | (intro k h; have := hz k h; omega)) (by first | omega | assumption | (intro k h; have := hz k h; omega))) (cwV 3 hts gX2_settle_X2_put rfl rfl rfl (by decide +kernel) ⟨Nat.le_of_ble_eq_true rfl, Nat.le_of_ble_eq_true rfl⟩) ⟨fb_W, va_recv hE.1 hP (ci := 2) (q0 := 0) rfl rfl, fun U hU hW => ⟨rfl, by rw [hU], (by rw [hU]; exact hP), hD.weaken (fun _ _ _ _ => trivial), hE.warm hW⟩⟩ rfl rfl hl.1 rfl (lv_room (Nat.le_of_ble_eq_true rfl)) dX2_settle_17 ⟨by first | exact Nat.le_of_ble_eq_true rfl | (show _ ≤ 0; omega), by first | exact Nat.le_of_ble_eq_true rfl | (show _ ≤ 0; omega)⟩) hS (fun q _ h => hFc q h) hFc (fun u t H1 locs ht hvm hw hB hz1 hk1 hS => ?_)
  rw [ht] at hB
  have hP : va_P E.1 vwCl [(h0, .inr (2, [.ref h1, .int (F 1), .int (F 2), .int (F 3), .int (F 4), .int (F 5)])), (h1, .inl (E.2.1 0, 60, .inl (pN N sc 0 ((((N (sc * 5 + 0)) * 6) / 10) + ff))))] H1 := hB
  have hD := hD.same (ws' := [(h0, .inr (2, [.ref h1, .int (F 1), .int (F 2), .int (F 3), .int (F 4), .int (F 5)])), (h1, .inl (E.2.1 0, 60, .inl (pN N sc 0 ((((N (sc * 5 + 0)) * 6) / 10) + ff))))]) (by simp only [List.map_cons, List.map_nil])
  generalize H1 = H at hP hS ⊢
  refine lv_iload_n hx hb dX2_settle_20 rfl (lv_at hl 2 rfl) ?_
  refine lv_iconst (v := 1) hx hb dX2_settle_21 (by decide) ?_
  refine mz_le (tgt := 37) hx hb dX2_settle_22 (by decide) (fun c_22 => ?_) (fun c_22 => ?_)
  · have e9_1 : settleN N sc tt ff (F 2) = pN N sc 0 ((((N (sc * 5 + 0)) * 6) / 10) + ff) := by first | (simp only [settleN, if_neg c_22]; done) | (try unfold settleN; simp only [if_neg c_22]; done) | (try unfold settleN; rfl) | rfl
    have hB9 : va_P E.1 vwCl [(h0, .inr (2, [.ref h1, .int (F 1), .int (F 2), .int (F 3), .int (F 4), .int (F 5)])), (h1, .inl (E.2.1 0, 60, .inl (settleN N sc tt ff (F 2))))] H := by rw [e9_1]; exact hP
    exact W.vret hx hb hr (fun t ht hW => ⟨⟨(), rfl, trivial, (by subst ht; exact hB9)⟩, hS.F ht⟩) hS.2.2 dX2_settle_37
  · refine lv_aload_n hx hb dX2_settle_25 rfl (lv_at hl 0 rfl) ?_
    refine lv_iload_n hx hb dX2_settle_26 rfl (lv_at hl 1 rfl) ?_
    refine lv_iconst (v := 3) hx hb dX2_settle_27 (by decide) ?_
    refine lv_aload_n hx hb dX2_settle_28 rfl (lv_at hl 0 rfl) ?_
    refine va_get (D := E.1) (ci := 2) (v := .int (F 2)) (C := RX2) (T := TX2) (N := 6) hx hb hts inX2 hown hE.1 hP 0 rfl rfl 2 (by decide) f_39 (fun _ h9 => h9) rfl dX2_settle_29 ?_
    refine lv_iconst (v := 2) hx hb dX2_settle_32 (by decide) ?_
    refine lv_idiv hx hb dX2_settle_33 (by decide) ?_
    have hFc := va_free (wc := [(h0, .inr (2, [.ref h1, .int (F 1), .int (F 2), .int (F 3), .int (F 4), .int (F 5)])), (h1, .inl (E.2.1 0, 60, .inl (pN N sc 0 ((((N (sc * 5 + 0)) * 6) / 10) + ff))))]) hD hS hA [0, 1] rfl
    refine va_callv (va_runV (As := [.int (nI sc), .int 3, .int ((F 2) / 2)]) (rest := []) ⟨hx, hb, hml, hown, hts⟩ (kX2_grow l E h0 h1 F (pN N sc 0 ((((N (sc * 5 + 0)) * 6) / 10) + ff)) sc 3 ((F 2) / 2) H.size (by first | omega | assumption | (intro k h; have := hz k h; omega)) (by first | omega | assumption | (intro k h; have := hz k h; omega))) (cwV 3 hts gX2_settle_X2_grow rfl rfl rfl (by decide +kernel) ⟨Nat.le_of_ble_eq_true rfl, Nat.le_of_ble_eq_true rfl⟩) ⟨fb_W, va_recv hE.1 hP (ci := 2) (q0 := 0) rfl rfl, fun U hU hW => ⟨rfl, by rw [hU], (by rw [hU]; exact hP), hD.weaken (fun _ _ _ _ => trivial), hE.warm hW⟩⟩ rfl rfl hl.1 rfl (lv_room (Nat.le_of_ble_eq_true rfl)) dX2_settle_34 ⟨by first | exact Nat.le_of_ble_eq_true rfl | (show _ ≤ 0; omega), by first | exact Nat.le_of_ble_eq_true rfl | (show _ ≤ 0; omega)⟩) hS (fun q _ h => hFc q h) hFc (fun u t H1 locs ht hvm hw hB hz1 hk1 hS => ?_)
    rw [ht] at hB
    have hP : va_P E.1 vwCl [(h0, .inr (2, [.ref h1, .int (F 1), .int (F 2), .int (F 3), .int (F 4), .int (F 5)])), (h1, .inl (E.2.1 0, 60, .inl (gN (pN N sc 0 ((((N (sc * 5 + 0)) * 6) / 10) + ff)) sc 3 ((F 2) / 2))))] H1 := hB
    have hD := hD.same (ws' := [(h0, .inr (2, [.ref h1, .int (F 1), .int (F 2), .int (F 3), .int (F 4), .int (F 5)])), (h1, .inl (E.2.1 0, 60, .inl (gN (pN N sc 0 ((((N (sc * 5 + 0)) * 6) / 10) + ff)) sc 3 ((F 2) / 2))))]) (by simp only [List.map_cons, List.map_nil])
    generalize H1 = H at hP hS ⊢
    have e9_1 : settleN N sc tt ff (F 2) = gN (pN N sc 0 ((((N (sc * 5 + 0)) * 6) / 10) + ff)) sc 3 ((F 2) / 2) := by first | (simp only [settleN, if_pos c_22]; done) | (try unfold settleN; simp only [if_pos c_22]; done) | (try unfold settleN; rfl) | rfl
    have hB9 : va_P E.1 vwCl [(h0, .inr (2, [.ref h1, .int (F 1), .int (F 2), .int (F 3), .int (F 4), .int (F 5)])), (h1, .inl (E.2.1 0, 60, .inl (settleN N sc tt ff (F 2))))] H := by rw [e9_1]; exact hP
    exact W.vret hx hb hr (fun t ht hW => ⟨⟨(), rfl, trivial, (by subst ht; exact hB9)⟩, hS.F ht⟩) hS.2.2 dX2_settle_37
set_option maxHeartbeats 4000000 in
set_option maxRecDepth 100000 in
theorem kX2_blow (l : Launch) (E : ev_T) (h0 : Nat) (h1 : Nat) (F : Nat → Int32) (N : Nat → Int32) (sc : Nat) (sz : Nat) (hs : sc < 12) : Met l yX2_blow wsX2_blow ({ frames := 3, cells := 0, slots := 0, locals := 66 } : Room) (va_Pc [.ref h0, .int (nI sc)] (pr_W E [(h0, .inr (2, [.ref h1, .int (F 1), .int (F 2), .int (F 3), .int (F 4), .int (F 5)])), (h1, .inl (E.2.1 0, 60, .inl N))] sz)) (va_Qv (fun (_ : Unit) => True) (fun _ t => va_P E.1 vwCl [(h0, .inr (2, [.ref h1, .int (F 1), .int (F 2), .int (F 3), .int (F 4), .int (F 5)])), (h1, .inl (E.2.1 0, 60, .inl (blowN N sc (F 3) (F 4))))] t.heap) (va_A [(h0, .inr (2, [.ref h1, .int (F 1), .int (F 2), .int (F 3), .int (F 4), .int (F 5)])), (h1, .inl (E.2.1 0, 60, .inl N))] sz)) 0 0 (va_A [(h0, .inr (2, [.ref h1, .int (F 1), .int (F 2), .int (F 3), .int (F 4), .int (F 5)])), (h1, .inl (E.2.1 0, 60, .inl N))] sz) := by
  refine Met.ofW (cc := cX2_blow) (maxL := 4) (ret := none) (by decide) rfl ?_
  intro p e s m args below meth c s₁ B hml hv
  obtain ⟨rfl, hsz, hP, hD0, hE⟩ := hv
  have hx := B.exec
  have hb := B.bytes
  have hr := B.returns
  have hts := atoms_spec (ws := wsX2_blow) B.pre
  have hown : s.vm.findClass RX2 = some m.cls := findClass_of_methodNamed B.named
  have hlocks := B.notSynchronized
  subst hsz
  have hD : va_D (va_A [(h0, .inr (2, [.ref h1, .int (F 1), .int (F 2), .int (F 3), .int (F 4), .int (F 5)])), (h1, .inl (E.2.1 0, 60, .inl N))] s.heap.size) [(h0, .inr (2, [.ref h1, .int (F 1), .int (F 2), .int (F 3), .int (F 4), .int (F 5)])), (h1, .inl (E.2.1 0, 60, .inl N))] := hD0.self
  have hA : ∀ q : Nat, s.heap.size ≤ q → (va_A [(h0, .inr (2, [.ref h1, .int (F 1), .int (F 2), .int (F 3), .int (F 4), .int (F 5)])), (h1, .inl (E.2.1 0, 60, .inl N))] s.heap.size) q := fun q h => Or.inr h
  refine mz_start (fun H locs hH hL => ?_)
  have hS : va_S (va_A [(h0, .inr (2, [.ref h1, .int (F 1), .int (F 2), .int (F 3), .int (F 4), .int (F 5)])), (h1, .inl (E.2.1 0, 60, .inl N))] s.heap.size) s.heap H locs := by rw [hH, hL]; exact va_S.rf
  have f_42 := hts (.fieldLink RX2 42 "AvalancheDesk$Region" "wind" "I") (by decide +kernel)
  have inX2 : ∀ w ∈ wsX20, w ∈ wsX2_blow := by decide +kernel
  have ml_23 := hts (.methodLink RX2 23 Lib.Math.min.name) (by decide +kernel)
  have ms_min := hts (.static Lib.Math.min.name) (by decide +kernel)
  have mi := hts (.initialized "java/lang/Math") (by decide +kernel)
  have mc_min := hts (.code Lib.Math.min.name Lib.Math.min.code 2 (some .int)) (by decide +kernel)
  have f_45 := hts (.fieldLink RX2 45 "AvalancheDesk$Region" "from" "I") (by decide +kernel)
  have hl := lv_entry ([.ref h0, .int (nI sc)]) (n := 4) (Nat.le_of_ble_eq_true rfl)
  rw [lg_entry_eq]
  generalize (lg_sl ([.ref h0, .int (nI sc)]) ++ List.replicate (4 - (lg_sl ([.ref h0, .int (nI sc)])).length) Slot.unset).toArray = ls at hl ⊢
  have hl : lv_has ls 4 [(0, .ref h0), (1, .int (nI sc))] := hl
  have hP : va_P E.1 vwCl [(h0, .inr (2, [.ref h1, .int (F 1), .int (F 2), .int (F 3), .int (F 4), .int (F 5)])), (h1, .inl (E.2.1 0, 60, .inl N))] H := by rw [hH]; exact hP
  refine lv_aload_n hx hb dX2_blow_0 rfl (lv_at hl 0 rfl) ?_
  refine va_get (D := E.1) (ci := 2) (v := .int (F 3)) (C := RX2) (T := TX2) (N := 6) hx hb hts inX2 hown hE.1 hP 0 rfl rfl 3 (by decide) f_42 (fun _ h9 => h9) rfl dX2_blow_1 ?_
  refine lv_bipush (v := 25) hx hb dX2_blow_4 (by decide) ?_
  refine mz_ge (tgt := 18) hx hb dX2_blow_6 (by decide) (fun c_6 => ?_) (fun c_6 => ?_)
  · refine lv_aload_n hx hb dX2_blow_18 rfl (lv_at hl 0 rfl) ?_
    refine lv_iload_n hx hb dX2_blow_19 rfl (lv_at hl 1 rfl) ?_
    refine lv_iconst (v := 0) hx hb dX2_blow_20 (by decide) ?_
    refine va_calli (va_runV (As := [.int (nI sc), .int 0]) (rest := []) ⟨hx, hb, hml, hown, hts⟩ (kX2_numberAt l E h0 h1 F N sc 0 (by first | omega | assumption | (intro k h; have := hz k h; omega)) (by first | omega | assumption | (intro k h; have := hz k h; omega))) (cwV 2 hts gX2_blow_X2_numberAt rfl rfl rfl (by decide +kernel) ⟨Nat.le_of_ble_eq_true rfl, Nat.le_of_ble_eq_true rfl⟩) ⟨fb_R, va_recv hE.1 hP (ci := 2) (q0 := 0) rfl rfl, fun U hU hW => ⟨rfl, (by rw [hU]; exact hP), hE.warm hW⟩⟩ rfl rfl hl.1 rfl (lv_room (Nat.le_of_ble_eq_true rfl)) dX2_blow_21 ⟨by first | exact Nat.le_of_ble_eq_true rfl | (show _ ≤ 0; omega), by first | exact Nat.le_of_ble_eq_true rfl | (show _ ≤ 0; omega)⟩) hS (fun q _ h => h.elim) (fun q h => h.elim) (fun r21_0 u t H1 locs ht hvm hw hB hz1 hk1 hS => ?_)
    have hP := hP.ro hk1
    generalize H1 = H at hP hS ⊢
    subst hw
    refine lv_bipush (v := 40) hx hb dX2_blow_24 (by decide) ?_
    refine mz_min hx hb (hml.trans hl.1.symm) hown ml_23 ms_min mi mc_min (Nat.le_of_ble_eq_true rfl) (Nat.le_of_ble_eq_true rfl) (by first | exact Nat.le_of_ble_eq_true rfl | (show _ ≤ 0; omega)) (by first | exact Nat.le_of_ble_eq_true rfl | (show _ ≤ 0; omega)) dX2_blow_26 ?_
    refine lv_aload_n hx hb dX2_blow_29 rfl (lv_at hl 0 rfl) ?_
    refine va_get (D := E.1) (ci := 2) (v := .int (F 3)) (C := RX2) (T := TX2) (N := 6) hx hb hts inX2 hown hE.1 hP 0 rfl rfl 3 (by decide) f_42 (fun _ h9 => h9) rfl dX2_blow_30 ?_
    refine lv_bipush (v := 20) hx hb dX2_blow_33 (by decide) ?_
    refine lv_isub hx hb dX2_blow_35 ?_
    refine lv_imul hx hb dX2_blow_36 ?_
    refine lv_bipush (v := 40) hx hb dX2_blow_37 (by decide) ?_
    refine lv_idiv hx hb dX2_blow_39 (by decide) ?_
    refine lv_istore_n (lv' := [(2, .int (((mn (N (sc * 5 + 0)) 40) * ((F 3) - 20)) / 40)), (0, .ref h0), (1, .int (nI sc))]) hx hb dX2_blow_40 rfl hl (by decide) rfl (fun ls hl => ?_)
    refine lv_iload_n hx hb dX2_blow_41 rfl (lv_at hl 2 rfl) ?_
    refine lv_iconst (v := 4) hx hb dX2_blow_42 (by decide) ?_
    refine mz_remN hx hb sc 4 (by omega) (by omega) (by omega) dX2_blow_43 ?_
    refine lv_aload_n hx hb dX2_blow_44 rfl (lv_at hl 1 rfl) ?_
    refine va_get (D := E.1) (ci := 2) (v := .int (F 4)) (C := RX2) (T := TX2) (N := 6) hx hb hts inX2 hown hE.1 hP 0 rfl rfl 4 (by decide) f_45 (fun _ h9 => h9) rfl dX2_blow_45 ?_
    refine lv_isub hx hb dX2_blow_48 ?_
    refine lv_iconst (v := 4) hx hb dX2_blow_49 (by decide) ?_
    refine lv_iadd hx hb dX2_blow_50 ?_
    refine lv_iconst (v := 4) hx hb dX2_blow_51 (by decide) ?_
    refine lv_irem hx hb dX2_blow_52 (by decide) ?_
    refine lv_istore_n (lv' := [(3, .int ((((nI (sc % 4)) - (F 4)) + 4) - (((nI (sc % 4)) - (F 4)) + 4) / 4 * 4)), (2, .int (((mn (N (sc * 5 + 0)) 40) * ((F 3) - 20)) / 40)), (0, .ref h0), (1, .int (nI sc))]) hx hb dX2_blow_53 rfl hl (by decide) rfl (fun ls hl => ?_)
    obtain ⟨mo, hmo⟩ : ∃ z, z = mostN N sc (F 3) := ⟨_, rfl⟩
    obtain ⟨tu, htu⟩ : ∃ z, z = turnS sc (F 4) := ⟨_, rfl⟩
    have hl : lv_has ls 4 [(3, .int tu), (2, .int mo), (0, .ref h0), (1, .int (nI sc))] := by rw [hmo, htu]; exact hl
    refine lv_iload_n hx hb dX2_blow_54 rfl (lv_at hl 0 rfl) ?_
    refine lv_iconst (v := 2) hx hb dX2_blow_55 (by decide) ?_
    refine lv_icmp_ne (tgt := 69) hx hb dX2_blow_56 (by decide) (fun c_56 => ?_) (fun c_56 => ?_)
    · refine lv_iload_n hx hb dX2_blow_69 rfl (lv_at hl 0 rfl) ?_
      refine lv_if_eq (tgt := 82) hx hb dX2_blow_70 (by decide) (fun c_70 => ?_) (fun c_70 => ?_)
      · have e9_1 : blowN N sc (F 3) (F 4) = N := by first | (simp only [blowN, if_neg c_6, ← hmo, ← htu, if_neg c_56, if_pos c_70]; done) | (try unfold blowN; simp only [if_neg c_6, ← hmo, ← htu, if_neg c_56, if_pos c_70]; done) | (try unfold blowN; rfl) | rfl
        have hB9 : va_P E.1 vwCl [(h0, .inr (2, [.ref h1, .int (F 1), .int (F 2), .int (F 3), .int (F 4), .int (F 5)])), (h1, .inl (E.2.1 0, 60, .inl (blowN N sc (F 3) (F 4))))] H := by rw [e9_1]; exact hP
        exact W.vret hx hb hr (fun t ht hW => ⟨⟨(), rfl, trivial, (by subst ht; exact hB9)⟩, hS.F ht⟩) hS.2.2 dX2_blow_82
      · refine lv_aload_n hx hb dX2_blow_73 rfl (lv_at hl 2 rfl) ?_
        refine lv_iload_n hx hb dX2_blow_74 rfl (lv_at hl 3 rfl) ?_
        refine lv_iconst (v := 1) hx hb dX2_blow_75 (by decide) ?_
        refine lv_iload_n hx hb dX2_blow_76 rfl (lv_at hl 1 rfl) ?_
        refine lv_iconst (v := 2) hx hb dX2_blow_77 (by decide) ?_
        refine lv_idiv hx hb dX2_blow_78 (by decide) ?_
        have hFc := va_free (wc := [(h0, .inr (2, [.ref h1, .int (F 1), .int (F 2), .int (F 3), .int (F 4), .int (F 5)])), (h1, .inl (E.2.1 0, 60, .inl N))]) hD hS hA [0, 1] rfl
        refine va_callv (va_runV (As := [.int (nI sc), .int 1, .int (mo / 2)]) (rest := []) ⟨hx, hb, hml, hown, hts⟩ (kX2_grow l E h0 h1 F N sc 1 (mo / 2) H.size (by first | omega | assumption | (intro k h; have := hz k h; omega)) (by first | omega | assumption | (intro k h; have := hz k h; omega))) (cwV 3 hts gX2_blow_X2_grow rfl rfl rfl (by decide +kernel) ⟨Nat.le_of_ble_eq_true rfl, Nat.le_of_ble_eq_true rfl⟩) ⟨fb_W, va_recv hE.1 hP (ci := 2) (q0 := 0) rfl rfl, fun U hU hW => ⟨rfl, by rw [hU], (by rw [hU]; exact hP), hD.weaken (fun _ _ _ _ => trivial), hE.warm hW⟩⟩ rfl rfl hl.1 rfl (lv_room (Nat.le_of_ble_eq_true rfl)) dX2_blow_79 ⟨by first | exact Nat.le_of_ble_eq_true rfl | (show _ ≤ 0; omega), by first | exact Nat.le_of_ble_eq_true rfl | (show _ ≤ 0; omega)⟩) hS (fun q _ h => hFc q h) hFc (fun u t H1 locs ht hvm hw hB hz1 hk1 hS => ?_)
        rw [ht] at hB
        have hP : va_P E.1 vwCl [(h0, .inr (2, [.ref h1, .int (F 1), .int (F 2), .int (F 3), .int (F 4), .int (F 5)])), (h1, .inl (E.2.1 0, 60, .inl (gN N sc 1 (mo / 2))))] H1 := hB
        have hD := hD.same (ws' := [(h0, .inr (2, [.ref h1, .int (F 1), .int (F 2), .int (F 3), .int (F 4), .int (F 5)])), (h1, .inl (E.2.1 0, 60, .inl (gN N sc 1 (mo / 2))))]) (by simp only [List.map_cons, List.map_nil])
        generalize H1 = H at hP hS ⊢
        have e9_1 : blowN N sc (F 3) (F 4) = gN N sc 1 (mo / 2) := by first | (simp only [blowN, if_neg c_6, ← hmo, ← htu, if_neg c_56, if_neg c_70]; done) | (try unfold blowN; simp only [if_neg c_6, ← hmo, ← htu, if_neg c_56, if_neg c_70]; done) | (try unfold blowN; rfl) | rfl
        have hB9 : va_P E.1 vwCl [(h0, .inr (2, [.ref h1, .int (F 1), .int (F 2), .int (F 3), .int (F 4), .int (F 5)])), (h1, .inl (E.2.1 0, 60, .inl (blowN N sc (F 3) (F 4))))] H := by rw [e9_1]; exact hP
        exact W.vret hx hb hr (fun t ht hW => ⟨⟨(), rfl, trivial, (by subst ht; exact hB9)⟩, hS.F ht⟩) hS.2.2 dX2_blow_82
    · refine lv_aload_n hx hb dX2_blow_59 rfl (lv_at hl 2 rfl) ?_
      refine lv_iload_n hx hb dX2_blow_60 rfl (lv_at hl 3 rfl) ?_
      refine lv_iconst (v := 1) hx hb dX2_blow_61 (by decide) ?_
      refine lv_iload_n hx hb dX2_blow_62 rfl (lv_at hl 1 rfl) ?_
      have hFc := va_free (wc := [(h0, .inr (2, [.ref h1, .int (F 1), .int (F 2), .int (F 3), .int (F 4), .int (F 5)])), (h1, .inl (E.2.1 0, 60, .inl N))]) hD hS hA [0, 1] rfl
      refine va_callv (va_runV (As := [.int (nI sc), .int 1, .int mo]) (rest := []) ⟨hx, hb, hml, hown, hts⟩ (kX2_grow l E h0 h1 F N sc 1 mo H.size (by first | omega | assumption | (intro k h; have := hz k h; omega)) (by first | omega | assumption | (intro k h; have := hz k h; omega))) (cwV 3 hts gX2_blow_X2_grow rfl rfl rfl (by decide +kernel) ⟨Nat.le_of_ble_eq_true rfl, Nat.le_of_ble_eq_true rfl⟩) ⟨fb_W, va_recv hE.1 hP (ci := 2) (q0 := 0) rfl rfl, fun U hU hW => ⟨rfl, by rw [hU], (by rw [hU]; exact hP), hD.weaken (fun _ _ _ _ => trivial), hE.warm hW⟩⟩ rfl rfl hl.1 rfl (lv_room (Nat.le_of_ble_eq_true rfl)) dX2_blow_63 ⟨by first | exact Nat.le_of_ble_eq_true rfl | (show _ ≤ 0; omega), by first | exact Nat.le_of_ble_eq_true rfl | (show _ ≤ 0; omega)⟩) hS (fun q _ h => hFc q h) hFc (fun u t H1 locs ht hvm hw hB hz1 hk1 hS => ?_)
      rw [ht] at hB
      have hP : va_P E.1 vwCl [(h0, .inr (2, [.ref h1, .int (F 1), .int (F 2), .int (F 3), .int (F 4), .int (F 5)])), (h1, .inl (E.2.1 0, 60, .inl (gN N sc 1 mo)))] H1 := hB
      have hD := hD.same (ws' := [(h0, .inr (2, [.ref h1, .int (F 1), .int (F 2), .int (F 3), .int (F 4), .int (F 5)])), (h1, .inl (E.2.1 0, 60, .inl (gN N sc 1 mo)))]) (by simp only [List.map_cons, List.map_nil])
      generalize H1 = H at hP hS ⊢
      refine lv_goto (tgt := 82) hx hb dX2_blow_66 (by decide) ?_
      have e9_1 : blowN N sc (F 3) (F 4) = gN N sc 1 mo := by first | (simp only [blowN, if_neg c_6, ← hmo, ← htu, if_pos c_56]; done) | (try unfold blowN; simp only [if_neg c_6, ← hmo, ← htu, if_pos c_56]; done) | (try unfold blowN; rfl) | rfl
      have hB9 : va_P E.1 vwCl [(h0, .inr (2, [.ref h1, .int (F 1), .int (F 2), .int (F 3), .int (F 4), .int (F 5)])), (h1, .inl (E.2.1 0, 60, .inl (blowN N sc (F 3) (F 4))))] H := by rw [e9_1]; exact hP
      exact W.vret hx hb hr (fun t ht hW => ⟨⟨(), rfl, trivial, (by subst ht; exact hB9)⟩, hS.F ht⟩) hS.2.2 dX2_blow_82
  · refine lv_aload_n hx hb dX2_blow_9 rfl (lv_at hl 0 rfl) ?_
    refine lv_iload_n hx hb dX2_blow_10 rfl (lv_at hl 1 rfl) ?_
    refine lv_iconst (v := 1) hx hb dX2_blow_11 (by decide) ?_
    refine lv_bipush (v := 80) hx hb dX2_blow_12 (by decide) ?_
    have hFc := va_free (wc := [(h0, .inr (2, [.ref h1, .int (F 1), .int (F 2), .int (F 3), .int (F 4), .int (F 5)])), (h1, .inl (E.2.1 0, 60, .inl N))]) hD hS hA [0, 1] rfl
    refine va_callv (va_runV (As := [.int (nI sc), .int 1, .int 80]) (rest := []) ⟨hx, hb, hml, hown, hts⟩ (kX2_keepPercent l E h0 h1 F N sc 1 80 H.size (by first | omega | assumption | (intro k h; have := hz k h; omega)) (by first | omega | assumption | (intro k h; have := hz k h; omega))) (cwV 3 hts gX2_blow_X2_keepPercent rfl rfl rfl (by decide +kernel) ⟨Nat.le_of_ble_eq_true rfl, Nat.le_of_ble_eq_true rfl⟩) ⟨fb_W, va_recv hE.1 hP (ci := 2) (q0 := 0) rfl rfl, fun U hU hW => ⟨rfl, by rw [hU], (by rw [hU]; exact hP), hD.weaken (fun _ _ _ _ => trivial), hE.warm hW⟩⟩ rfl rfl hl.1 rfl (lv_room (Nat.le_of_ble_eq_true rfl)) dX2_blow_14 ⟨by first | exact Nat.le_of_ble_eq_true rfl | (show _ ≤ 0; omega), by first | exact Nat.le_of_ble_eq_true rfl | (show _ ≤ 0; omega)⟩) hS (fun q _ h => hFc q h) hFc (fun u t H1 locs ht hvm hw hB hz1 hk1 hS => ?_)
    rw [ht] at hB
    have hP : va_P E.1 vwCl [(h0, .inr (2, [.ref h1, .int (F 1), .int (F 2), .int (F 3), .int (F 4), .int (F 5)])), (h1, .inl (E.2.1 0, 60, .inl (qN N sc 1 80)))] H1 := hB
    have hD := hD.same (ws' := [(h0, .inr (2, [.ref h1, .int (F 1), .int (F 2), .int (F 3), .int (F 4), .int (F 5)])), (h1, .inl (E.2.1 0, 60, .inl (qN N sc 1 80)))]) (by simp only [List.map_cons, List.map_nil])
    generalize H1 = H at hP hS ⊢
    have e9_1 : blowN N sc (F 3) (F 4) = qN N sc 1 80 := by first | (simp only [blowN, if_pos c_6]; done) | (try unfold blowN; simp only [if_pos c_6]; done) | (try unfold blowN; rfl) | rfl
    have hB9 : va_P E.1 vwCl [(h0, .inr (2, [.ref h1, .int (F 1), .int (F 2), .int (F 3), .int (F 4), .int (F 5)])), (h1, .inl (E.2.1 0, 60, .inl (blowN N sc (F 3) (F 4))))] H := by rw [e9_1]; exact hP
    exact W.vret hx hb hr (fun t ht hW => ⟨⟨(), rfl, trivial, (by subst ht; exact hB9)⟩, hS.F ht⟩) hS.2.2 dX2_blow_17
set_option maxHeartbeats 4000000 in
set_option maxRecDepth 100000 in
theorem kX2_buryHoar (l : Launch) (E : ev_T) (h0 : Nat) (h1 : Nat) (F : Nat → Int32) (N : Nat → Int32) (sc : Nat) (tt : Int32) (ff : Int32) (sz : Nat) (hs : sc < 12) : Met l yX2_buryHoar wsX2_buryHoar ({ frames := 3, cells := 0, slots := 0, locals := 66 } : Room) (va_Pc [.ref h0, .int (nI sc), .int tt, .int ff] (pr_W E [(h0, .inr (2, [.ref h1, .int (F 1), .int (F 2), .int (F 3), .int (F 4), .int (F 5)])), (h1, .inl (E.2.1 0, 60, .inl N))] sz)) (va_Qv (fun (_ : Unit) => True) (fun _ t => va_P E.1 vwCl [(h0, .inr (2, [.ref h1, .int (F 1), .int (F 2), .int (F 3), .int (F 4), .int (F 5)])), (h1, .inl (E.2.1 0, 60, .inl (buryN N sc tt ff (F 3))))] t.heap) (va_A [(h0, .inr (2, [.ref h1, .int (F 1), .int (F 2), .int (F 3), .int (F 4), .int (F 5)])), (h1, .inl (E.2.1 0, 60, .inl N))] sz)) 0 0 (va_A [(h0, .inr (2, [.ref h1, .int (F 1), .int (F 2), .int (F 3), .int (F 4), .int (F 5)])), (h1, .inl (E.2.1 0, 60, .inl N))] sz) := by
  refine Met.ofW (cc := cX2_buryHoar) (maxL := 4) (ret := none) (by decide) rfl ?_
  intro p e s m args below meth c s₁ B hml hv
  obtain ⟨rfl, hsz, hP, hD0, hE⟩ := hv
  have hx := B.exec
  have hb := B.bytes
  have hr := B.returns
  have hts := atoms_spec (ws := wsX2_buryHoar) B.pre
  have hown : s.vm.findClass RX2 = some m.cls := findClass_of_methodNamed B.named
  have hlocks := B.notSynchronized
  subst hsz
  have hD : va_D (va_A [(h0, .inr (2, [.ref h1, .int (F 1), .int (F 2), .int (F 3), .int (F 4), .int (F 5)])), (h1, .inl (E.2.1 0, 60, .inl N))] s.heap.size) [(h0, .inr (2, [.ref h1, .int (F 1), .int (F 2), .int (F 3), .int (F 4), .int (F 5)])), (h1, .inl (E.2.1 0, 60, .inl N))] := hD0.self
  have hA : ∀ q : Nat, s.heap.size ≤ q → (va_A [(h0, .inr (2, [.ref h1, .int (F 1), .int (F 2), .int (F 3), .int (F 4), .int (F 5)])), (h1, .inl (E.2.1 0, 60, .inl N))] s.heap.size) q := fun q h => Or.inr h
  refine mz_start (fun H locs hH hL => ?_)
  have hS : va_S (va_A [(h0, .inr (2, [.ref h1, .int (F 1), .int (F 2), .int (F 3), .int (F 4), .int (F 5)])), (h1, .inl (E.2.1 0, 60, .inl N))] s.heap.size) s.heap H locs := by rw [hH, hL]; exact va_S.rf
  have f_42 := hts (.fieldLink RX2 42 "AvalancheDesk$Region" "wind" "I") (by decide +kernel)
  have inX2 : ∀ w ∈ wsX20, w ∈ wsX2_buryHoar := by decide +kernel
  have hl := lv_entry ([.ref h0, .int (nI sc), .int tt, .int ff]) (n := 4) (Nat.le_of_ble_eq_true rfl)
  rw [lg_entry_eq]
  generalize (lg_sl ([.ref h0, .int (nI sc), .int tt, .int ff]) ++ List.replicate (4 - (lg_sl ([.ref h0, .int (nI sc), .int tt, .int ff])).length) Slot.unset).toArray = ls at hl ⊢
  have hl : lv_has ls 4 [(0, .ref h0), (1, .int (nI sc)), (2, .int tt), (3, .int ff)] := hl
  have hP : va_P E.1 vwCl [(h0, .inr (2, [.ref h1, .int (F 1), .int (F 2), .int (F 3), .int (F 4), .int (F 5)])), (h1, .inl (E.2.1 0, 60, .inl N))] H := by rw [hH]; exact hP
  refine lv_iload_n hx hb dX2_buryHoar_0 rfl (lv_at hl 3 rfl) ?_
  refine lv_bipush (v := 10) hx hb dX2_buryHoar_1 (by decide) ?_
  refine mz_lt (tgt := 31) hx hb dX2_buryHoar_3 (by decide) (fun c_3 => ?_) (fun c_3 => ?_)
  · refine lv_aload_n hx hb dX2_buryHoar_31 rfl (lv_at hl 0 rfl) ?_
    refine va_get (D := E.1) (ci := 2) (v := .int (F 3)) (C := RX2) (T := TX2) (N := 6) hx hb hts inX2 hown hE.1 hP 0 rfl rfl 3 (by decide) f_42 (fun _ h9 => h9) rfl dX2_buryHoar_32 ?_
    refine lv_bipush (v := 40) hx hb dX2_buryHoar_35 (by decide) ?_
    refine mz_ge (tgt := 44) hx hb dX2_buryHoar_37 (by decide) (fun c_37 => ?_) (fun c_37 => ?_)
    · refine lv_aload_n hx hb dX2_buryHoar_44 rfl (lv_at hl 0 rfl) ?_
      refine lv_iload_n hx hb dX2_buryHoar_45 rfl (lv_at hl 1 rfl) ?_
      refine lv_iconst (v := 4) hx hb dX2_buryHoar_46 (by decide) ?_
      refine lv_iconst (v := 0) hx hb dX2_buryHoar_47 (by decide) ?_
      have hFc := va_free (wc := [(h0, .inr (2, [.ref h1, .int (F 1), .int (F 2), .int (F 3), .int (F 4), .int (F 5)])), (h1, .inl (E.2.1 0, 60, .inl N))]) hD hS hA [0, 1] rfl
      refine va_callv (va_runV (As := [.int (nI sc), .int 4, .int 0]) (rest := []) ⟨hx, hb, hml, hown, hts⟩ (kX2_put l E h0 h1 F N sc 4 0 H.size (by first | omega | assumption | (intro k h; have := hz k h; omega)) (by first | omega | assumption | (intro k h; have := hz k h; omega))) (cwV 3 hts gX2_buryHoar_X2_put rfl rfl rfl (by decide +kernel) ⟨Nat.le_of_ble_eq_true rfl, Nat.le_of_ble_eq_true rfl⟩) ⟨fb_W, va_recv hE.1 hP (ci := 2) (q0 := 0) rfl rfl, fun U hU hW => ⟨rfl, by rw [hU], (by rw [hU]; exact hP), hD.weaken (fun _ _ _ _ => trivial), hE.warm hW⟩⟩ rfl rfl hl.1 rfl (lv_room (Nat.le_of_ble_eq_true rfl)) dX2_buryHoar_48 ⟨by first | exact Nat.le_of_ble_eq_true rfl | (show _ ≤ 0; omega), by first | exact Nat.le_of_ble_eq_true rfl | (show _ ≤ 0; omega)⟩) hS (fun q _ h => hFc q h) hFc (fun u t H1 locs ht hvm hw hB hz1 hk1 hS => ?_)
      rw [ht] at hB
      have hP : va_P E.1 vwCl [(h0, .inr (2, [.ref h1, .int (F 1), .int (F 2), .int (F 3), .int (F 4), .int (F 5)])), (h1, .inl (E.2.1 0, 60, .inl (pN N sc 4 0)))] H1 := hB
      have hD := hD.same (ws' := [(h0, .inr (2, [.ref h1, .int (F 1), .int (F 2), .int (F 3), .int (F 4), .int (F 5)])), (h1, .inl (E.2.1 0, 60, .inl (pN N sc 4 0)))]) (by simp only [List.map_cons, List.map_nil])
      generalize H1 = H at hP hS ⊢
      refine lv_goto (tgt := 80) hx hb dX2_buryHoar_51 (by decide) ?_
      have e9_1 : buryN N sc tt ff (F 3) = pN N sc 4 0 := by first | (simp only [buryN, if_pos c_3, if_neg c_37]; done) | (try unfold buryN; simp only [if_pos c_3, if_neg c_37]; done) | (try unfold buryN; rfl) | rfl
      have hB9 : va_P E.1 vwCl [(h0, .inr (2, [.ref h1, .int (F 1), .int (F 2), .int (F 3), .int (F 4), .int (F 5)])), (h1, .inl (E.2.1 0, 60, .inl (buryN N sc tt ff (F 3))))] H := by rw [e9_1]; exact hP
      exact W.vret hx hb hr (fun t ht hW => ⟨⟨(), rfl, trivial, (by subst ht; exact hB9)⟩, hS.F ht⟩) hS.2.2 dX2_buryHoar_80
    · refine lv_iload_n hx hb dX2_buryHoar_40 rfl (lv_at hl 2 rfl) ?_
      refine mz_ifle (tgt := 54) hx hb dX2_buryHoar_41 (by decide) (fun c_41 => ?_) (fun c_41 => ?_)
      · refine lv_iload_n hx hb dX2_buryHoar_54 rfl (lv_at hl 3 rfl) ?_
        refine lv_if_ne (tgt := 80) hx hb dX2_buryHoar_55 (by decide) (fun c_55 => ?_) (fun c_55 => ?_)
        · have e9_1 : buryN N sc tt ff (F 3) = N := by first | (simp only [buryN, if_pos c_3, if_pos c_37, if_neg c_41, if_neg c_55]; done) | (try unfold buryN; simp only [if_pos c_3, if_pos c_37, if_neg c_41, if_neg c_55]; done) | (try unfold buryN; rfl) | rfl
          have hB9 : va_P E.1 vwCl [(h0, .inr (2, [.ref h1, .int (F 1), .int (F 2), .int (F 3), .int (F 4), .int (F 5)])), (h1, .inl (E.2.1 0, 60, .inl (buryN N sc tt ff (F 3))))] H := by rw [e9_1]; exact hP
          exact W.vret hx hb hr (fun t ht hW => ⟨⟨(), rfl, trivial, (by subst ht; exact hB9)⟩, hS.F ht⟩) hS.2.2 dX2_buryHoar_80
        · refine lv_aload_n hx hb dX2_buryHoar_58 rfl (lv_at hl 0 rfl) ?_
          refine va_get (D := E.1) (ci := 2) (v := .int (F 3)) (C := RX2) (T := TX2) (N := 6) hx hb hts inX2 hown hE.1 hP 0 rfl rfl 3 (by decide) f_42 (fun _ h9 => h9) rfl dX2_buryHoar_59 ?_
          refine lv_bipush (v := 15) hx hb dX2_buryHoar_62 (by decide) ?_
          refine mz_ge (tgt := 80) hx hb dX2_buryHoar_64 (by decide) (fun c_64 => ?_) (fun c_64 => ?_)
          · have e9_1 : buryN N sc tt ff (F 3) = N := by first | (simp only [buryN, if_pos c_3, if_pos c_37, if_neg c_41, if_pos c_55, if_neg c_64]; done) | (try unfold buryN; simp only [if_pos c_3, if_pos c_37, if_neg c_41, if_pos c_55, if_neg c_64]; done) | (try unfold buryN; rfl) | rfl
            have hB9 : va_P E.1 vwCl [(h0, .inr (2, [.ref h1, .int (F 1), .int (F 2), .int (F 3), .int (F 4), .int (F 5)])), (h1, .inl (E.2.1 0, 60, .inl (buryN N sc tt ff (F 3))))] H := by rw [e9_1]; exact hP
            exact W.vret hx hb hr (fun t ht hW => ⟨⟨(), rfl, trivial, (by subst ht; exact hB9)⟩, hS.F ht⟩) hS.2.2 dX2_buryHoar_80
          · refine lv_iload_n hx hb dX2_buryHoar_67 rfl (lv_at hl 2 rfl) ?_
            refine lv_bipush (v := (-8)) hx hb dX2_buryHoar_68 (by decide) ?_
            refine mz_ge (tgt := 80) hx hb dX2_buryHoar_70 (by decide) (fun c_70 => ?_) (fun c_70 => ?_)
            · have e9_1 : buryN N sc tt ff (F 3) = N := by first | (simp only [buryN, if_pos c_3, if_pos c_37, if_neg c_41, if_pos c_55, if_pos c_64, if_neg c_70]; done) | (try unfold buryN; simp only [if_pos c_3, if_pos c_37, if_neg c_41, if_pos c_55, if_pos c_64, if_neg c_70]; done) | (try unfold buryN; rfl) | rfl
              have hB9 : va_P E.1 vwCl [(h0, .inr (2, [.ref h1, .int (F 1), .int (F 2), .int (F 3), .int (F 4), .int (F 5)])), (h1, .inl (E.2.1 0, 60, .inl (buryN N sc tt ff (F 3))))] H := by rw [e9_1]; exact hP
              exact W.vret hx hb hr (fun t ht hW => ⟨⟨(), rfl, trivial, (by subst ht; exact hB9)⟩, hS.F ht⟩) hS.2.2 dX2_buryHoar_80
            · refine lv_aload_n hx hb dX2_buryHoar_73 rfl (lv_at hl 0 rfl) ?_
              refine lv_iload_n hx hb dX2_buryHoar_74 rfl (lv_at hl 1 rfl) ?_
              refine lv_iconst (v := 4) hx hb dX2_buryHoar_75 (by decide) ?_
              refine lv_iconst (v := 1) hx hb dX2_buryHoar_76 (by decide) ?_
              have hFc := va_free (wc := [(h0, .inr (2, [.ref h1, .int (F 1), .int (F 2), .int (F 3), .int (F 4), .int (F 5)])), (h1, .inl (E.2.1 0, 60, .inl N))]) hD hS hA [0, 1] rfl
              refine va_callv (va_runV (As := [.int (nI sc), .int 4, .int 1]) (rest := []) ⟨hx, hb, hml, hown, hts⟩ (kX2_grow l E h0 h1 F N sc 4 1 H.size (by first | omega | assumption | (intro k h; have := hz k h; omega)) (by first | omega | assumption | (intro k h; have := hz k h; omega))) (cwV 3 hts gX2_buryHoar_X2_grow rfl rfl rfl (by decide +kernel) ⟨Nat.le_of_ble_eq_true rfl, Nat.le_of_ble_eq_true rfl⟩) ⟨fb_W, va_recv hE.1 hP (ci := 2) (q0 := 0) rfl rfl, fun U hU hW => ⟨rfl, by rw [hU], (by rw [hU]; exact hP), hD.weaken (fun _ _ _ _ => trivial), hE.warm hW⟩⟩ rfl rfl hl.1 rfl (lv_room (Nat.le_of_ble_eq_true rfl)) dX2_buryHoar_77 ⟨by first | exact Nat.le_of_ble_eq_true rfl | (show _ ≤ 0; omega), by first | exact Nat.le_of_ble_eq_true rfl | (show _ ≤ 0; omega)⟩) hS (fun q _ h => hFc q h) hFc (fun u t H1 locs ht hvm hw hB hz1 hk1 hS => ?_)
              rw [ht] at hB
              have hP : va_P E.1 vwCl [(h0, .inr (2, [.ref h1, .int (F 1), .int (F 2), .int (F 3), .int (F 4), .int (F 5)])), (h1, .inl (E.2.1 0, 60, .inl (gN N sc 4 1)))] H1 := hB
              have hD := hD.same (ws' := [(h0, .inr (2, [.ref h1, .int (F 1), .int (F 2), .int (F 3), .int (F 4), .int (F 5)])), (h1, .inl (E.2.1 0, 60, .inl (gN N sc 4 1)))]) (by simp only [List.map_cons, List.map_nil])
              generalize H1 = H at hP hS ⊢
              have e9_1 : buryN N sc tt ff (F 3) = gN N sc 4 1 := by first | (simp only [buryN, if_pos c_3, if_pos c_37, if_neg c_41, if_pos c_55, if_pos c_64, if_pos c_70]; done) | (try unfold buryN; simp only [if_pos c_3, if_pos c_37, if_neg c_41, if_pos c_55, if_pos c_64, if_pos c_70]; done) | (try unfold buryN; rfl) | rfl
              have hB9 : va_P E.1 vwCl [(h0, .inr (2, [.ref h1, .int (F 1), .int (F 2), .int (F 3), .int (F 4), .int (F 5)])), (h1, .inl (E.2.1 0, 60, .inl (buryN N sc tt ff (F 3))))] H := by rw [e9_1]; exact hP
              exact W.vret hx hb hr (fun t ht hW => ⟨⟨(), rfl, trivial, (by subst ht; exact hB9)⟩, hS.F ht⟩) hS.2.2 dX2_buryHoar_80
      · refine lv_aload_n hx hb dX2_buryHoar_44 rfl (lv_at hl 0 rfl) ?_
        refine lv_iload_n hx hb dX2_buryHoar_45 rfl (lv_at hl 1 rfl) ?_
        refine lv_iconst (v := 4) hx hb dX2_buryHoar_46 (by decide) ?_
        refine lv_iconst (v := 0) hx hb dX2_buryHoar_47 (by decide) ?_
        have hFc := va_free (wc := [(h0, .inr (2, [.ref h1, .int (F 1), .int (F 2), .int (F 3), .int (F 4), .int (F 5)])), (h1, .inl (E.2.1 0, 60, .inl N))]) hD hS hA [0, 1] rfl
        refine va_callv (va_runV (As := [.int (nI sc), .int 4, .int 0]) (rest := []) ⟨hx, hb, hml, hown, hts⟩ (kX2_put l E h0 h1 F N sc 4 0 H.size (by first | omega | assumption | (intro k h; have := hz k h; omega)) (by first | omega | assumption | (intro k h; have := hz k h; omega))) (cwV 3 hts gX2_buryHoar_X2_put rfl rfl rfl (by decide +kernel) ⟨Nat.le_of_ble_eq_true rfl, Nat.le_of_ble_eq_true rfl⟩) ⟨fb_W, va_recv hE.1 hP (ci := 2) (q0 := 0) rfl rfl, fun U hU hW => ⟨rfl, by rw [hU], (by rw [hU]; exact hP), hD.weaken (fun _ _ _ _ => trivial), hE.warm hW⟩⟩ rfl rfl hl.1 rfl (lv_room (Nat.le_of_ble_eq_true rfl)) dX2_buryHoar_48 ⟨by first | exact Nat.le_of_ble_eq_true rfl | (show _ ≤ 0; omega), by first | exact Nat.le_of_ble_eq_true rfl | (show _ ≤ 0; omega)⟩) hS (fun q _ h => hFc q h) hFc (fun u t H1 locs ht hvm hw hB hz1 hk1 hS => ?_)
        rw [ht] at hB
        have hP : va_P E.1 vwCl [(h0, .inr (2, [.ref h1, .int (F 1), .int (F 2), .int (F 3), .int (F 4), .int (F 5)])), (h1, .inl (E.2.1 0, 60, .inl (pN N sc 4 0)))] H1 := hB
        have hD := hD.same (ws' := [(h0, .inr (2, [.ref h1, .int (F 1), .int (F 2), .int (F 3), .int (F 4), .int (F 5)])), (h1, .inl (E.2.1 0, 60, .inl (pN N sc 4 0)))]) (by simp only [List.map_cons, List.map_nil])
        generalize H1 = H at hP hS ⊢
        refine lv_goto (tgt := 80) hx hb dX2_buryHoar_51 (by decide) ?_
        have e9_1 : buryN N sc tt ff (F 3) = pN N sc 4 0 := by first | (simp only [buryN, if_pos c_3, if_pos c_37, if_pos c_41]; done) | (try unfold buryN; simp only [if_pos c_3, if_pos c_37, if_pos c_41]; done) | (try unfold buryN; rfl) | rfl
        have hB9 : va_P E.1 vwCl [(h0, .inr (2, [.ref h1, .int (F 1), .int (F 2), .int (F 3), .int (F 4), .int (F 5)])), (h1, .inl (E.2.1 0, 60, .inl (buryN N sc tt ff (F 3))))] H := by rw [e9_1]; exact hP
        exact W.vret hx hb hr (fun t ht hW => ⟨⟨(), rfl, trivial, (by subst ht; exact hB9)⟩, hS.F ht⟩) hS.2.2 dX2_buryHoar_80
  · refine lv_aload_n hx hb dX2_buryHoar_6 rfl (lv_at hl 0 rfl) ?_
    refine lv_iload_n hx hb dX2_buryHoar_7 rfl (lv_at hl 1 rfl) ?_
    refine lv_iconst (v := 2) hx hb dX2_buryHoar_8 (by decide) ?_
    refine lv_bipush (v := 15) hx hb dX2_buryHoar_9 (by decide) ?_
    refine lv_aload_n hx hb dX2_buryHoar_11 rfl (lv_at hl 0 rfl) ?_
    refine lv_iload_n hx hb dX2_buryHoar_12 rfl (lv_at hl 1 rfl) ?_
    refine lv_iconst (v := 4) hx hb dX2_buryHoar_13 (by decide) ?_
    refine va_calli (va_runV (As := [.int (nI sc), .int 4]) (rest := [.int 15, .int 2, .int (nI sc), .ref h0]) ⟨hx, hb, hml, hown, hts⟩ (kX2_numberAt l E h0 h1 F N sc 4 (by first | omega | assumption | (intro k h; have := hz k h; omega)) (by first | omega | assumption | (intro k h; have := hz k h; omega))) (cwV 2 hts gX2_buryHoar_X2_numberAt rfl rfl rfl (by decide +kernel) ⟨Nat.le_of_ble_eq_true rfl, Nat.le_of_ble_eq_true rfl⟩) ⟨fb_R, va_recv hE.1 hP (ci := 2) (q0 := 0) rfl rfl, fun U hU hW => ⟨rfl, (by rw [hU]; exact hP), hE.warm hW⟩⟩ rfl rfl hl.1 rfl (lv_room (Nat.le_of_ble_eq_true rfl)) dX2_buryHoar_14 ⟨by first | exact Nat.le_of_ble_eq_true rfl | (show _ ≤ 0; omega), by first | exact Nat.le_of_ble_eq_true rfl | (show _ ≤ 0; omega)⟩) hS (fun q _ h => h.elim) (fun q h => h.elim) (fun r14_3 u t H1 locs ht hvm hw hB hz1 hk1 hS => ?_)
    have hP := hP.ro hk1
    generalize H1 = H at hP hS ⊢
    subst hw
    refine lv_imul hx hb dX2_buryHoar_17 ?_
    have hFc := va_free (wc := [(h0, .inr (2, [.ref h1, .int (F 1), .int (F 2), .int (F 3), .int (F 4), .int (F 5)])), (h1, .inl (E.2.1 0, 60, .inl N))]) hD hS hA [0, 1] rfl
    refine va_callv (va_runV (As := [.int (nI sc), .int 2, .int (15 * (N (sc * 5 + 4)))]) (rest := []) ⟨hx, hb, hml, hown, hts⟩ (kX2_grow l E h0 h1 F N sc 2 (15 * (N (sc * 5 + 4))) H.size (by first | omega | assumption | (intro k h; have := hz k h; omega)) (by first | omega | assumption | (intro k h; have := hz k h; omega))) (cwV 3 hts gX2_buryHoar_X2_grow rfl rfl rfl (by decide +kernel) ⟨Nat.le_of_ble_eq_true rfl, Nat.le_of_ble_eq_true rfl⟩) ⟨fb_W, va_recv hE.1 hP (ci := 2) (q0 := 0) rfl rfl, fun U hU hW => ⟨rfl, by rw [hU], (by rw [hU]; exact hP), hD.weaken (fun _ _ _ _ => trivial), hE.warm hW⟩⟩ rfl rfl hl.1 rfl (lv_room (Nat.le_of_ble_eq_true rfl)) dX2_buryHoar_18 ⟨by first | exact Nat.le_of_ble_eq_true rfl | (show _ ≤ 0; omega), by first | exact Nat.le_of_ble_eq_true rfl | (show _ ≤ 0; omega)⟩) hS (fun q _ h => hFc q h) hFc (fun u t H1 locs ht hvm hw hB hz1 hk1 hS => ?_)
    rw [ht] at hB
    have hP : va_P E.1 vwCl [(h0, .inr (2, [.ref h1, .int (F 1), .int (F 2), .int (F 3), .int (F 4), .int (F 5)])), (h1, .inl (E.2.1 0, 60, .inl (gN N sc 2 (15 * (N (sc * 5 + 4))))))] H1 := hB
    have hD := hD.same (ws' := [(h0, .inr (2, [.ref h1, .int (F 1), .int (F 2), .int (F 3), .int (F 4), .int (F 5)])), (h1, .inl (E.2.1 0, 60, .inl (gN N sc 2 (15 * (N (sc * 5 + 4))))))]) (by simp only [List.map_cons, List.map_nil])
    generalize H1 = H at hP hS ⊢
    refine lv_aload_n hx hb dX2_buryHoar_21 rfl (lv_at hl 0 rfl) ?_
    refine lv_iload_n hx hb dX2_buryHoar_22 rfl (lv_at hl 1 rfl) ?_
    refine lv_iconst (v := 4) hx hb dX2_buryHoar_23 (by decide) ?_
    refine lv_iconst (v := 0) hx hb dX2_buryHoar_24 (by decide) ?_
    have hFc := va_free (wc := [(h0, .inr (2, [.ref h1, .int (F 1), .int (F 2), .int (F 3), .int (F 4), .int (F 5)])), (h1, .inl (E.2.1 0, 60, .inl (gN N sc 2 (15 * (N (sc * 5 + 4))))))]) hD hS hA [0, 1] rfl
    refine va_callv (va_runV (As := [.int (nI sc), .int 4, .int 0]) (rest := []) ⟨hx, hb, hml, hown, hts⟩ (kX2_put l E h0 h1 F (gN N sc 2 (15 * (N (sc * 5 + 4)))) sc 4 0 H.size (by first | omega | assumption | (intro k h; have := hz k h; omega)) (by first | omega | assumption | (intro k h; have := hz k h; omega))) (cwV 3 hts gX2_buryHoar_X2_put rfl rfl rfl (by decide +kernel) ⟨Nat.le_of_ble_eq_true rfl, Nat.le_of_ble_eq_true rfl⟩) ⟨fb_W, va_recv hE.1 hP (ci := 2) (q0 := 0) rfl rfl, fun U hU hW => ⟨rfl, by rw [hU], (by rw [hU]; exact hP), hD.weaken (fun _ _ _ _ => trivial), hE.warm hW⟩⟩ rfl rfl hl.1 rfl (lv_room (Nat.le_of_ble_eq_true rfl)) dX2_buryHoar_25 ⟨by first | exact Nat.le_of_ble_eq_true rfl | (show _ ≤ 0; omega), by first | exact Nat.le_of_ble_eq_true rfl | (show _ ≤ 0; omega)⟩) hS (fun q _ h => hFc q h) hFc (fun u t H1 locs ht hvm hw hB hz1 hk1 hS => ?_)
    rw [ht] at hB
    have hP : va_P E.1 vwCl [(h0, .inr (2, [.ref h1, .int (F 1), .int (F 2), .int (F 3), .int (F 4), .int (F 5)])), (h1, .inl (E.2.1 0, 60, .inl (pN (gN N sc 2 (15 * (N (sc * 5 + 4)))) sc 4 0)))] H1 := hB
    have hD := hD.same (ws' := [(h0, .inr (2, [.ref h1, .int (F 1), .int (F 2), .int (F 3), .int (F 4), .int (F 5)])), (h1, .inl (E.2.1 0, 60, .inl (pN (gN N sc 2 (15 * (N (sc * 5 + 4)))) sc 4 0)))]) (by simp only [List.map_cons, List.map_nil])
    generalize H1 = H at hP hS ⊢
    refine lv_goto (tgt := 80) hx hb dX2_buryHoar_28 (by decide) ?_
    have e9_1 : buryN N sc tt ff (F 3) = pN (gN N sc 2 (15 * (N (sc * 5 + 4)))) sc 4 0 := by first | (simp only [buryN, if_neg c_3]; done) | (try unfold buryN; simp only [if_neg c_3]; done) | (try unfold buryN; rfl) | rfl
    have hB9 : va_P E.1 vwCl [(h0, .inr (2, [.ref h1, .int (F 1), .int (F 2), .int (F 3), .int (F 4), .int (F 5)])), (h1, .inl (E.2.1 0, 60, .inl (buryN N sc tt ff (F 3))))] H := by rw [e9_1]; exact hP
    exact W.vret hx hb hr (fun t ht hW => ⟨⟨(), rfl, trivial, (by subst ht; exact hB9)⟩, hS.F ht⟩) hS.2.2 dX2_buryHoar_80
set_option maxHeartbeats 4000000 in
set_option maxRecDepth 100000 in
theorem kX2_thaw (l : Launch) (E : ev_T) (h0 : Nat) (h1 : Nat) (F : Nat → Int32) (N : Nat → Int32) (sc : Nat) (tt : Int32) (sz : Nat) (hs : sc < 12) : Met l yX2_thaw wsX2_thaw ({ frames := 3, cells := 0, slots := 0, locals := 66 } : Room) (va_Pc [.ref h0, .int (nI sc), .int tt] (pr_W E [(h0, .inr (2, [.ref h1, .int (F 1), .int (F 2), .int (F 3), .int (F 4), .int (F 5)])), (h1, .inl (E.2.1 0, 60, .inl N))] sz)) (va_Qv (fun (_ : Unit) => True) (fun _ t => va_P E.1 vwCl [(h0, .inr (2, [.ref h1, .int (F 1), .int (F 2), .int (F 3), .int (F 4), .int (F 5)])), (h1, .inl (E.2.1 0, 60, .inl (thawN N sc tt)))] t.heap) (va_A [(h0, .inr (2, [.ref h1, .int (F 1), .int (F 2), .int (F 3), .int (F 4), .int (F 5)])), (h1, .inl (E.2.1 0, 60, .inl N))] sz)) 0 0 (va_A [(h0, .inr (2, [.ref h1, .int (F 1), .int (F 2), .int (F 3), .int (F 4), .int (F 5)])), (h1, .inl (E.2.1 0, 60, .inl N))] sz) := by
  refine Met.ofW (cc := cX2_thaw) (maxL := 3) (ret := none) (by decide) rfl ?_
  intro p e s m args below meth c s₁ B hml hv
  obtain ⟨rfl, hsz, hP, hD0, hE⟩ := hv
  have hx := B.exec
  have hb := B.bytes
  have hr := B.returns
  have hts := atoms_spec (ws := wsX2_thaw) B.pre
  have hown : s.vm.findClass RX2 = some m.cls := findClass_of_methodNamed B.named
  have hlocks := B.notSynchronized
  subst hsz
  have hD : va_D (va_A [(h0, .inr (2, [.ref h1, .int (F 1), .int (F 2), .int (F 3), .int (F 4), .int (F 5)])), (h1, .inl (E.2.1 0, 60, .inl N))] s.heap.size) [(h0, .inr (2, [.ref h1, .int (F 1), .int (F 2), .int (F 3), .int (F 4), .int (F 5)])), (h1, .inl (E.2.1 0, 60, .inl N))] := hD0.self
  have hA : ∀ q : Nat, s.heap.size ≤ q → (va_A [(h0, .inr (2, [.ref h1, .int (F 1), .int (F 2), .int (F 3), .int (F 4), .int (F 5)])), (h1, .inl (E.2.1 0, 60, .inl N))] s.heap.size) q := fun q h => Or.inr h
  refine mz_start (fun H locs hH hL => ?_)
  have hS : va_S (va_A [(h0, .inr (2, [.ref h1, .int (F 1), .int (F 2), .int (F 3), .int (F 4), .int (F 5)])), (h1, .inl (E.2.1 0, 60, .inl N))] s.heap.size) s.heap H locs := by rw [hH, hL]; exact va_S.rf
  have hl := lv_entry ([.ref h0, .int (nI sc), .int tt]) (n := 3) (Nat.le_of_ble_eq_true rfl)
  rw [lg_entry_eq]
  generalize (lg_sl ([.ref h0, .int (nI sc), .int tt]) ++ List.replicate (3 - (lg_sl ([.ref h0, .int (nI sc), .int tt])).length) Slot.unset).toArray = ls at hl ⊢
  have hl : lv_has ls 3 [(0, .ref h0), (1, .int (nI sc)), (2, .int tt)] := hl
  have hP : va_P E.1 vwCl [(h0, .inr (2, [.ref h1, .int (F 1), .int (F 2), .int (F 3), .int (F 4), .int (F 5)])), (h1, .inl (E.2.1 0, 60, .inl N))] H := by rw [hH]; exact hP
  refine lv_iload_n hx hb dX2_thaw_0 rfl (lv_at hl 2 rfl) ?_
  refine mz_ifle (tgt := 36) hx hb dX2_thaw_1 (by decide) (fun c_1 => ?_) (fun c_1 => ?_)
  · refine lv_aload_n hx hb dX2_thaw_36 rfl (lv_at hl 0 rfl) ?_
    refine lv_iload_n hx hb dX2_thaw_37 rfl (lv_at hl 1 rfl) ?_
    refine lv_iconst (v := 2) hx hb dX2_thaw_38 (by decide) ?_
    refine lv_bipush (v := 95) hx hb dX2_thaw_39 (by decide) ?_
    have hFc := va_free (wc := [(h0, .inr (2, [.ref h1, .int (F 1), .int (F 2), .int (F 3), .int (F 4), .int (F 5)])), (h1, .inl (E.2.1 0, 60, .inl N))]) hD hS hA [0, 1] rfl
    refine va_callv (va_runV (As := [.int (nI sc), .int 2, .int 95]) (rest := []) ⟨hx, hb, hml, hown, hts⟩ (kX2_keepPercent l E h0 h1 F N sc 2 95 H.size (by first | omega | assumption | (intro k h; have := hz k h; omega)) (by first | omega | assumption | (intro k h; have := hz k h; omega))) (cwV 3 hts gX2_thaw_X2_keepPercent rfl rfl rfl (by decide +kernel) ⟨Nat.le_of_ble_eq_true rfl, Nat.le_of_ble_eq_true rfl⟩) ⟨fb_W, va_recv hE.1 hP (ci := 2) (q0 := 0) rfl rfl, fun U hU hW => ⟨rfl, by rw [hU], (by rw [hU]; exact hP), hD.weaken (fun _ _ _ _ => trivial), hE.warm hW⟩⟩ rfl rfl hl.1 rfl (lv_room (Nat.le_of_ble_eq_true rfl)) dX2_thaw_41 ⟨by first | exact Nat.le_of_ble_eq_true rfl | (show _ ≤ 0; omega), by first | exact Nat.le_of_ble_eq_true rfl | (show _ ≤ 0; omega)⟩) hS (fun q _ h => hFc q h) hFc (fun u t H1 locs ht hvm hw hB hz1 hk1 hS => ?_)
    rw [ht] at hB
    have hP : va_P E.1 vwCl [(h0, .inr (2, [.ref h1, .int (F 1), .int (F 2), .int (F 3), .int (F 4), .int (F 5)])), (h1, .inl (E.2.1 0, 60, .inl (qN N sc 2 95)))] H1 := hB
    have hD := hD.same (ws' := [(h0, .inr (2, [.ref h1, .int (F 1), .int (F 2), .int (F 3), .int (F 4), .int (F 5)])), (h1, .inl (E.2.1 0, 60, .inl (qN N sc 2 95)))]) (by simp only [List.map_cons, List.map_nil])
    generalize H1 = H at hP hS ⊢
    refine lv_aload_n hx hb dX2_thaw_44 rfl (lv_at hl 0 rfl) ?_
    refine lv_iload_n hx hb dX2_thaw_45 rfl (lv_at hl 1 rfl) ?_
    refine lv_iconst (v := 3) hx hb dX2_thaw_46 (by decide) ?_
    refine lv_bipush (v := 50) hx hb dX2_thaw_47 (by decide) ?_
    have hFc := va_free (wc := [(h0, .inr (2, [.ref h1, .int (F 1), .int (F 2), .int (F 3), .int (F 4), .int (F 5)])), (h1, .inl (E.2.1 0, 60, .inl (qN N sc 2 95)))]) hD hS hA [0, 1] rfl
    refine va_callv (va_runV (As := [.int (nI sc), .int 3, .int 50]) (rest := []) ⟨hx, hb, hml, hown, hts⟩ (kX2_keepPercent l E h0 h1 F (qN N sc 2 95) sc 3 50 H.size (by first | omega | assumption | (intro k h; have := hz k h; omega)) (by first | omega | assumption | (intro k h; have := hz k h; omega))) (cwV 3 hts gX2_thaw_X2_keepPercent rfl rfl rfl (by decide +kernel) ⟨Nat.le_of_ble_eq_true rfl, Nat.le_of_ble_eq_true rfl⟩) ⟨fb_W, va_recv hE.1 hP (ci := 2) (q0 := 0) rfl rfl, fun U hU hW => ⟨rfl, by rw [hU], (by rw [hU]; exact hP), hD.weaken (fun _ _ _ _ => trivial), hE.warm hW⟩⟩ rfl rfl hl.1 rfl (lv_room (Nat.le_of_ble_eq_true rfl)) dX2_thaw_49 ⟨by first | exact Nat.le_of_ble_eq_true rfl | (show _ ≤ 0; omega), by first | exact Nat.le_of_ble_eq_true rfl | (show _ ≤ 0; omega)⟩) hS (fun q _ h => hFc q h) hFc (fun u t H1 locs ht hvm hw hB hz1 hk1 hS => ?_)
    rw [ht] at hB
    have hP : va_P E.1 vwCl [(h0, .inr (2, [.ref h1, .int (F 1), .int (F 2), .int (F 3), .int (F 4), .int (F 5)])), (h1, .inl (E.2.1 0, 60, .inl (qN (qN N sc 2 95) sc 3 50)))] H1 := hB
    have hD := hD.same (ws' := [(h0, .inr (2, [.ref h1, .int (F 1), .int (F 2), .int (F 3), .int (F 4), .int (F 5)])), (h1, .inl (E.2.1 0, 60, .inl (qN (qN N sc 2 95) sc 3 50)))]) (by simp only [List.map_cons, List.map_nil])
    generalize H1 = H at hP hS ⊢
    have e9_1 : thawN N sc tt = qN (qN N sc 2 95) sc 3 50 := by first | (simp only [thawN, if_neg c_1]; done) | (try unfold thawN; simp only [if_neg c_1]; done) | (try unfold thawN; rfl) | rfl
    have hB9 : va_P E.1 vwCl [(h0, .inr (2, [.ref h1, .int (F 1), .int (F 2), .int (F 3), .int (F 4), .int (F 5)])), (h1, .inl (E.2.1 0, 60, .inl (thawN N sc tt)))] H := by rw [e9_1]; exact hP
    exact W.vret hx hb hr (fun t ht hW => ⟨⟨(), rfl, trivial, (by subst ht; exact hB9)⟩, hS.F ht⟩) hS.2.2 dX2_thaw_52
  · refine lv_aload_n hx hb dX2_thaw_4 rfl (lv_at hl 0 rfl) ?_
    refine lv_iload_n hx hb dX2_thaw_5 rfl (lv_at hl 1 rfl) ?_
    refine lv_iconst (v := 2) hx hb dX2_thaw_6 (by decide) ?_
    refine lv_bipush (v := 70) hx hb dX2_thaw_7 (by decide) ?_
    have hFc := va_free (wc := [(h0, .inr (2, [.ref h1, .int (F 1), .int (F 2), .int (F 3), .int (F 4), .int (F 5)])), (h1, .inl (E.2.1 0, 60, .inl N))]) hD hS hA [0, 1] rfl
    refine va_callv (va_runV (As := [.int (nI sc), .int 2, .int 70]) (rest := []) ⟨hx, hb, hml, hown, hts⟩ (kX2_keepPercent l E h0 h1 F N sc 2 70 H.size (by first | omega | assumption | (intro k h; have := hz k h; omega)) (by first | omega | assumption | (intro k h; have := hz k h; omega))) (cwV 3 hts gX2_thaw_X2_keepPercent rfl rfl rfl (by decide +kernel) ⟨Nat.le_of_ble_eq_true rfl, Nat.le_of_ble_eq_true rfl⟩) ⟨fb_W, va_recv hE.1 hP (ci := 2) (q0 := 0) rfl rfl, fun U hU hW => ⟨rfl, by rw [hU], (by rw [hU]; exact hP), hD.weaken (fun _ _ _ _ => trivial), hE.warm hW⟩⟩ rfl rfl hl.1 rfl (lv_room (Nat.le_of_ble_eq_true rfl)) dX2_thaw_9 ⟨by first | exact Nat.le_of_ble_eq_true rfl | (show _ ≤ 0; omega), by first | exact Nat.le_of_ble_eq_true rfl | (show _ ≤ 0; omega)⟩) hS (fun q _ h => hFc q h) hFc (fun u t H1 locs ht hvm hw hB hz1 hk1 hS => ?_)
    rw [ht] at hB
    have hP : va_P E.1 vwCl [(h0, .inr (2, [.ref h1, .int (F 1), .int (F 2), .int (F 3), .int (F 4), .int (F 5)])), (h1, .inl (E.2.1 0, 60, .inl (qN N sc 2 70)))] H1 := hB
    have hD := hD.same (ws' := [(h0, .inr (2, [.ref h1, .int (F 1), .int (F 2), .int (F 3), .int (F 4), .int (F 5)])), (h1, .inl (E.2.1 0, 60, .inl (qN N sc 2 70)))]) (by simp only [List.map_cons, List.map_nil])
    generalize H1 = H at hP hS ⊢
    refine lv_aload_n hx hb dX2_thaw_12 rfl (lv_at hl 0 rfl) ?_
    refine lv_iload_n hx hb dX2_thaw_13 rfl (lv_at hl 1 rfl) ?_
    refine lv_iconst (v := 3) hx hb dX2_thaw_14 (by decide) ?_
    refine lv_iload_n hx hb dX2_thaw_15 rfl (lv_at hl 1 rfl) ?_
    refine lv_iconst (v := 4) hx hb dX2_thaw_16 (by decide) ?_
    refine mz_remN hx hb sc 4 (by omega) (by omega) (by omega) dX2_thaw_17 ?_
    refine lv_iconst (v := 2) hx hb dX2_thaw_18 (by decide) ?_
    refine mz_neN hx hb (sc % 4) 2 (tgt := 27) dX2_thaw_19 (by decide) (by omega) (by omega) (fun c_19 => ?_) (fun c_19 => ?_)
    · refine lv_iconst (v := 4) hx hb dX2_thaw_27 (by decide) ?_
      refine lv_iload_n hx hb dX2_thaw_28 rfl (lv_at hl 2 rfl) ?_
      refine lv_imul hx hb dX2_thaw_29 ?_
      have hFc := va_free (wc := [(h0, .inr (2, [.ref h1, .int (F 1), .int (F 2), .int (F 3), .int (F 4), .int (F 5)])), (h1, .inl (E.2.1 0, 60, .inl (qN N sc 2 70)))]) hD hS hA [0, 1] rfl
      refine va_callv (va_runV (As := [.int (nI sc), .int 3, .int (4 * tt)]) (rest := []) ⟨hx, hb, hml, hown, hts⟩ (kX2_grow l E h0 h1 F (qN N sc 2 70) sc 3 (4 * tt) H.size (by first | omega | assumption | (intro k h; have := hz k h; omega)) (by first | omega | assumption | (intro k h; have := hz k h; omega))) (cwV 3 hts gX2_thaw_X2_grow rfl rfl rfl (by decide +kernel) ⟨Nat.le_of_ble_eq_true rfl, Nat.le_of_ble_eq_true rfl⟩) ⟨fb_W, va_recv hE.1 hP (ci := 2) (q0 := 0) rfl rfl, fun U hU hW => ⟨rfl, by rw [hU], (by rw [hU]; exact hP), hD.weaken (fun _ _ _ _ => trivial), hE.warm hW⟩⟩ rfl rfl hl.1 rfl (lv_room (Nat.le_of_ble_eq_true rfl)) dX2_thaw_30 ⟨by first | exact Nat.le_of_ble_eq_true rfl | (show _ ≤ 0; omega), by first | exact Nat.le_of_ble_eq_true rfl | (show _ ≤ 0; omega)⟩) hS (fun q _ h => hFc q h) hFc (fun u t H1 locs ht hvm hw hB hz1 hk1 hS => ?_)
      rw [ht] at hB
      have hP : va_P E.1 vwCl [(h0, .inr (2, [.ref h1, .int (F 1), .int (F 2), .int (F 3), .int (F 4), .int (F 5)])), (h1, .inl (E.2.1 0, 60, .inl (gN (qN N sc 2 70) sc 3 (4 * tt))))] H1 := hB
      have hD := hD.same (ws' := [(h0, .inr (2, [.ref h1, .int (F 1), .int (F 2), .int (F 3), .int (F 4), .int (F 5)])), (h1, .inl (E.2.1 0, 60, .inl (gN (qN N sc 2 70) sc 3 (4 * tt))))]) (by simp only [List.map_cons, List.map_nil])
      generalize H1 = H at hP hS ⊢
      refine lv_goto (tgt := 52) hx hb dX2_thaw_33 (by decide) ?_
      have e9_1 : thawN N sc tt = gN (qN N sc 2 70) sc 3 (4 * tt) := by first | (simp only [thawN, if_pos c_1, if_neg c_19]; done) | (try unfold thawN; simp only [if_pos c_1, if_neg c_19]; done) | (try unfold thawN; rfl) | rfl
      have hB9 : va_P E.1 vwCl [(h0, .inr (2, [.ref h1, .int (F 1), .int (F 2), .int (F 3), .int (F 4), .int (F 5)])), (h1, .inl (E.2.1 0, 60, .inl (thawN N sc tt)))] H := by rw [e9_1]; exact hP
      exact W.vret hx hb hr (fun t ht hW => ⟨⟨(), rfl, trivial, (by subst ht; exact hB9)⟩, hS.F ht⟩) hS.2.2 dX2_thaw_52
    · refine lv_bipush (v := 8) hx hb dX2_thaw_22 (by decide) ?_
      refine lv_goto (tgt := 28) hx hb dX2_thaw_24 (by decide) ?_
      refine lv_iload_n hx hb dX2_thaw_28 rfl (lv_at hl 2 rfl) ?_
      refine lv_imul hx hb dX2_thaw_29 ?_
      have hFc := va_free (wc := [(h0, .inr (2, [.ref h1, .int (F 1), .int (F 2), .int (F 3), .int (F 4), .int (F 5)])), (h1, .inl (E.2.1 0, 60, .inl (qN N sc 2 70)))]) hD hS hA [0, 1] rfl
      refine va_callv (va_runV (As := [.int (nI sc), .int 3, .int (8 * tt)]) (rest := []) ⟨hx, hb, hml, hown, hts⟩ (kX2_grow l E h0 h1 F (qN N sc 2 70) sc 3 (8 * tt) H.size (by first | omega | assumption | (intro k h; have := hz k h; omega)) (by first | omega | assumption | (intro k h; have := hz k h; omega))) (cwV 3 hts gX2_thaw_X2_grow rfl rfl rfl (by decide +kernel) ⟨Nat.le_of_ble_eq_true rfl, Nat.le_of_ble_eq_true rfl⟩) ⟨fb_W, va_recv hE.1 hP (ci := 2) (q0 := 0) rfl rfl, fun U hU hW => ⟨rfl, by rw [hU], (by rw [hU]; exact hP), hD.weaken (fun _ _ _ _ => trivial), hE.warm hW⟩⟩ rfl rfl hl.1 rfl (lv_room (Nat.le_of_ble_eq_true rfl)) dX2_thaw_30 ⟨by first | exact Nat.le_of_ble_eq_true rfl | (show _ ≤ 0; omega), by first | exact Nat.le_of_ble_eq_true rfl | (show _ ≤ 0; omega)⟩) hS (fun q _ h => hFc q h) hFc (fun u t H1 locs ht hvm hw hB hz1 hk1 hS => ?_)
      rw [ht] at hB
      have hP : va_P E.1 vwCl [(h0, .inr (2, [.ref h1, .int (F 1), .int (F 2), .int (F 3), .int (F 4), .int (F 5)])), (h1, .inl (E.2.1 0, 60, .inl (gN (qN N sc 2 70) sc 3 (8 * tt))))] H1 := hB
      have hD := hD.same (ws' := [(h0, .inr (2, [.ref h1, .int (F 1), .int (F 2), .int (F 3), .int (F 4), .int (F 5)])), (h1, .inl (E.2.1 0, 60, .inl (gN (qN N sc 2 70) sc 3 (8 * tt))))]) (by simp only [List.map_cons, List.map_nil])
      generalize H1 = H at hP hS ⊢
      refine lv_goto (tgt := 52) hx hb dX2_thaw_33 (by decide) ?_
      have e9_1 : thawN N sc tt = gN (qN N sc 2 70) sc 3 (8 * tt) := by first | (simp only [thawN, if_pos c_1, if_pos c_19]; done) | (try unfold thawN; simp only [if_pos c_1, if_pos c_19]; done) | (try unfold thawN; rfl) | rfl
      have hB9 : va_P E.1 vwCl [(h0, .inr (2, [.ref h1, .int (F 1), .int (F 2), .int (F 3), .int (F 4), .int (F 5)])), (h1, .inl (E.2.1 0, 60, .inl (thawN N sc tt)))] H := by rw [e9_1]; exact hP
      exact W.vret hx hb hr (fun t ht hW => ⟨⟨(), rfl, trivial, (by subst ht; exact hB9)⟩, hS.F ht⟩) hS.2.2 dX2_thaw_52
set_option maxHeartbeats 4000000 in
set_option maxRecDepth 100000 in
theorem kX2_passDay (l : Launch) (E : ev_T) (h0 : Nat) (h1 : Nat) (F : Nat → Int32) (N : Nat → Int32) (sz : Nat) : Met l yX2_passDay wsX2_passDay ({ frames := 4, cells := 0, slots := 0, locals := 89 } : Room) (va_Pc [.ref h0] (pr_W E [(h0, .inr (2, [.ref h1, .int (F 1), .int (F 2), .int (F 3), .int (F 4), .int (F 5)])), (h1, .inl (E.2.1 0, 60, .inl N))] sz)) (va_Qv (fun (_ : Unit) => True) (fun _ t => va_P E.1 vwCl [(h0, .inr (2, [.ref h1, .int (F 1), .int (F 2), .int (F 3), .int (F 4), .int (F 5)])), (h1, .inl (E.2.1 0, 60, .inl (pdN N (F 2) (F 3) (F 4) (F 5) 12)))] t.heap) (va_A [(h0, .inr (2, [.ref h1, .int (F 1), .int (F 2), .int (F 3), .int (F 4), .int (F 5)])), (h1, .inl (E.2.1 0, 60, .inl N))] sz)) 0 0 (va_A [(h0, .inr (2, [.ref h1, .int (F 1), .int (F 2), .int (F 3), .int (F 4), .int (F 5)])), (h1, .inl (E.2.1 0, 60, .inl N))] sz) := by
  refine Met.ofW (cc := cX2_passDay) (maxL := 4) (ret := none) (by decide) rfl ?_
  intro p e s m args below meth c s₁ B hml hv
  obtain ⟨rfl, hsz, hP, hD0, hE⟩ := hv
  have hx := B.exec
  have hb := B.bytes
  have hr := B.returns
  have hts := atoms_spec (ws := wsX2_passDay) B.pre
  have hown : s.vm.findClass RX2 = some m.cls := findClass_of_methodNamed B.named
  have hlocks := B.notSynchronized
  subst hsz
  have hD : va_D (va_A [(h0, .inr (2, [.ref h1, .int (F 1), .int (F 2), .int (F 3), .int (F 4), .int (F 5)])), (h1, .inl (E.2.1 0, 60, .inl N))] s.heap.size) [(h0, .inr (2, [.ref h1, .int (F 1), .int (F 2), .int (F 3), .int (F 4), .int (F 5)])), (h1, .inl (E.2.1 0, 60, .inl N))] := hD0.self
  have hA : ∀ q : Nat, s.heap.size ≤ q → (va_A [(h0, .inr (2, [.ref h1, .int (F 1), .int (F 2), .int (F 3), .int (F 4), .int (F 5)])), (h1, .inl (E.2.1 0, 60, .inl N))] s.heap.size) q := fun q h => Or.inr h
  refine mz_start (fun H locs hH hL => ?_)
  have hS : va_S (va_A [(h0, .inr (2, [.ref h1, .int (F 1), .int (F 2), .int (F 3), .int (F 4), .int (F 5)])), (h1, .inl (E.2.1 0, 60, .inl N))] s.heap.size) s.heap H locs := by rw [hH, hL]; exact va_S.rf
  have f_15 := hts (.fieldLink RX2 15 "AvalancheDesk$Region" "temperature" "I") (by decide +kernel)
  have inX2 : ∀ w ∈ wsX20, w ∈ wsX2_passDay := by decide +kernel
  have f_39 := hts (.fieldLink RX2 39 "AvalancheDesk$Region" "snow" "I") (by decide +kernel)
  have hl := lv_entry ([.ref h0]) (n := 4) (Nat.le_of_ble_eq_true rfl)
  rw [lg_entry_eq]
  generalize (lg_sl ([.ref h0]) ++ List.replicate (4 - (lg_sl ([.ref h0])).length) Slot.unset).toArray = ls at hl ⊢
  have hl : lv_has ls 4 [(0, .ref h0)] := hl
  have hP : va_P E.1 vwCl [(h0, .inr (2, [.ref h1, .int (F 1), .int (F 2), .int (F 3), .int (F 4), .int (F 5)])), (h1, .inl (E.2.1 0, 60, .inl N))] H := by rw [hH]; exact hP
  refine lv_iconst (v := 0) hx hb dX2_passDay_0 (by decide) ?_
  refine lv_istore_n (lv' := [(1, .int 0), (0, .ref h0)]) hx hb dX2_passDay_1 rfl hl (by decide) rfl (fun ls hl => ?_)
  have KL2 : ∀ (n2 ii : Nat), ii ≤ 12 → 12 < n2 + ii → ∀ (H : Heap) (locs : List Loc) (ls : Array Slot), va_P E.1 vwCl [(h0, .inr (2, [.ref h1, .int (F 1), .int (F 2), .int (F 3), .int (F 4), .int (F 5)])), (h1, .inl (E.2.1 0, 60, .inl (pdN N (F 2) (F 3) (F 4) (F 5) ii)))] H → va_D (va_A [(h0, .inr (2, [.ref h1, .int (F 1), .int (F 2), .int (F 3), .int (F 4), .int (F 5)])), (h1, .inl (E.2.1 0, 60, .inl N))] s.heap.size) [(h0, .inr (2, [.ref h1, .int (F 1), .int (F 2), .int (F 3), .int (F 4), .int (F 5)])), (h1, .inl (E.2.1 0, 60, .inl (pdN N (F 2) (F 3) (F 4) (F 5) ii)))] → va_S (va_A [(h0, .inr (2, [.ref h1, .int (F 1), .int (F 2), .int (F 3), .int (F 4), .int (F 5)])), (h1, .inl (E.2.1 0, 60, .inl N))] s.heap.size) s.heap H locs → lv_has ls 4 [(1, .int (nI ii)), (0, .ref h0)] → W p l e (headSpec wsX2_passDay ({ frames := 4, cells := 0, slots := 0, locals := 89 } : Room)).room s m [.ref h0].toArray below meth c H locs 0 0 (MQ below (va_Qv (fun (_ : Unit) => True) (fun _ t => va_P E.1 vwCl [(h0, .inr (2, [.ref h1, .int (F 1), .int (F 2), .int (F 3), .int (F 4), .int (F 5)])), (h1, .inl (E.2.1 0, 60, .inl (pdN N (F 2) (F 3) (F 4) (F 5) 12)))] t.heap) (va_A [(h0, .inr (2, [.ref h1, .int (F 1), .int (F 2), .int (F 3), .int (F 4), .int (F 5)])), (h1, .inl (E.2.1 0, 60, .inl N))] s.heap.size)) [.ref h0].toArray s 0 0 (va_A [(h0, .inr (2, [.ref h1, .int (F 1), .int (F 2), .int (F 3), .int (F 4), .int (F 5)])), (h1, .inl (E.2.1 0, 60, .inl N))] s.heap.size)) (F0 m 2 ls []) := by
    intro n2
    induction n2 with
    | zero => intro ii h1 h2; exact absurd h2 (by omega)
    | succ n2 ih2 =>
      intro ii hi2 hn2 H locs ls hP hD hS hl
      refine lv_iload_n hx hb dX2_passDay_2 rfl (lv_at hl 0 rfl) ?_
      refine lv_bipush (v := 12) hx hb dX2_passDay_3 (by decide) ?_
      refine mz_geN hx hb ii 12 (tgt := 67) dX2_passDay_5 (by decide) (by omega) (by omega) (fun c_5 => ?_) (fun c_5 => ?_)
      · have hq99 : ii = 12 := by omega
        subst ii
        have hB9 : va_P E.1 vwCl [(h0, .inr (2, [.ref h1, .int (F 1), .int (F 2), .int (F 3), .int (F 4), .int (F 5)])), (h1, .inl (E.2.1 0, 60, .inl (pdN N (F 2) (F 3) (F 4) (F 5) 12)))] H := by exact hP
        exact W.vret hx hb hr (fun t ht hW => ⟨⟨(), rfl, trivial, (by subst ht; exact hB9)⟩, hS.F ht⟩) hS.2.2 dX2_passDay_67
      · refine lv_aload_n hx hb dX2_passDay_8 rfl (lv_at hl 1 rfl) ?_
        refine va_get (D := E.1) (ci := 2) (v := .int (F 5)) (C := RX2) (T := TX2) (N := 6) hx hb hts inX2 hown hE.1 hP 0 rfl rfl 5 (by decide) f_15 (fun _ h9 => h9) rfl dX2_passDay_9 ?_
        refine lv_bipush (v := 6) hx hb dX2_passDay_12 (by decide) ?_
        refine lv_iconst (v := 1) hx hb dX2_passDay_14 (by decide) ?_
        refine lv_iload_n hx hb dX2_passDay_15 rfl (lv_at hl 0 rfl) ?_
        refine lv_iconst (v := 4) hx hb dX2_passDay_16 (by decide) ?_
        refine mz_divN hx hb ii 4 (by omega) (by omega) (by omega) dX2_passDay_17 ?_
        refine lv_isub hx hb dX2_passDay_18 ?_
        refine lv_imul hx hb dX2_passDay_19 ?_
        refine lv_iadd hx hb dX2_passDay_20 ?_
        refine lv_istore_n (lv' := [(2, .int ((F 5) + (6 * (1 - (nI (ii / 4)))))), (1, .int (nI ii)), (0, .ref h0)]) hx hb dX2_passDay_21 rfl hl (by decide) rfl (fun ls hl => ?_)
        have KJ35 : ∀ (x : Int32), x = (fallS (F 2) (tS (F 5) ii)) → ∀ (H : Heap) (locs : List Loc) (ls : Array Slot), va_P E.1 vwCl [(h0, .inr (2, [.ref h1, .int (F 1), .int (F 2), .int (F 3), .int (F 4), .int (F 5)])), (h1, .inl (E.2.1 0, 60, .inl (pdN N (F 2) (F 3) (F 4) (F 5) ii)))] H → va_D (va_A [(h0, .inr (2, [.ref h1, .int (F 1), .int (F 2), .int (F 3), .int (F 4), .int (F 5)])), (h1, .inl (E.2.1 0, 60, .inl N))] s.heap.size) [(h0, .inr (2, [.ref h1, .int (F 1), .int (F 2), .int (F 3), .int (F 4), .int (F 5)])), (h1, .inl (E.2.1 0, 60, .inl (pdN N (F 2) (F 3) (F 4) (F 5) ii)))] → va_S (va_A [(h0, .inr (2, [.ref h1, .int (F 1), .int (F 2), .int (F 3), .int (F 4), .int (F 5)])), (h1, .inl (E.2.1 0, 60, .inl N))] s.heap.size) s.heap H locs → lv_has ls 4 [(2, .int ((F 5) + (6 * (1 - (nI (ii / 4)))))), (1, .int (nI ii)), (0, .ref h0)] → W p l e (headSpec wsX2_passDay ({ frames := 4, cells := 0, slots := 0, locals := 89 } : Room)).room s m [.ref h0].toArray below meth c H locs 0 0 (MQ below (va_Qv (fun (_ : Unit) => True) (fun _ t => va_P E.1 vwCl [(h0, .inr (2, [.ref h1, .int (F 1), .int (F 2), .int (F 3), .int (F 4), .int (F 5)])), (h1, .inl (E.2.1 0, 60, .inl (pdN N (F 2) (F 3) (F 4) (F 5) 12)))] t.heap) (va_A [(h0, .inr (2, [.ref h1, .int (F 1), .int (F 2), .int (F 3), .int (F 4), .int (F 5)])), (h1, .inl (E.2.1 0, 60, .inl N))] s.heap.size)) [.ref h0].toArray s 0 0 (va_A [(h0, .inr (2, [.ref h1, .int (F 1), .int (F 2), .int (F 3), .int (F 4), .int (F 5)])), (h1, .inl (E.2.1 0, 60, .inl N))] s.heap.size)) (F0 m 35 ls [.int x]) := by
          intro x ex H locs ls hP hD hS hl
          subst ex
          refine lv_istore_n (lv' := [(3, .int (fallS (F 2) (tS (F 5) ii))), (2, .int ((F 5) + (6 * (1 - (nI (ii / 4)))))), (1, .int (nI ii)), (0, .ref h0)]) hx hb dX2_passDay_35 rfl hl (by decide) rfl (fun ls hl => ?_)
          refine lv_aload_n hx hb dX2_passDay_36 rfl (lv_at hl 3 rfl) ?_
          refine lv_iload_n hx hb dX2_passDay_37 rfl (lv_at hl 2 rfl) ?_
          refine lv_iload_n hx hb dX2_passDay_38 rfl (lv_at hl 1 rfl) ?_
          refine lv_iload_n hx hb dX2_passDay_39 rfl (lv_at hl 0 rfl) ?_
          have hFc := va_free (wc := [(h0, .inr (2, [.ref h1, .int (F 1), .int (F 2), .int (F 3), .int (F 4), .int (F 5)])), (h1, .inl (E.2.1 0, 60, .inl (pdN N (F 2) (F 3) (F 4) (F 5) ii)))]) hD hS hA [0, 1] rfl
          refine va_callv (va_runV (As := [.int (nI ii), .int ((F 5) + (6 * (1 - (nI (ii / 4))))), .int (fallS (F 2) (tS (F 5) ii))]) (rest := []) ⟨hx, hb, hml, hown, hts⟩ (kX2_settle l E h0 h1 F (pdN N (F 2) (F 3) (F 4) (F 5) ii) ii ((F 5) + (6 * (1 - (nI (ii / 4))))) (fallS (F 2) (tS (F 5) ii)) H.size (by first | omega | assumption | (intro k h; have := hz k h; omega))) (cwV 3 hts gX2_passDay_X2_settle rfl rfl rfl (by decide +kernel) ⟨Nat.le_of_ble_eq_true rfl, Nat.le_of_ble_eq_true rfl⟩) ⟨fb_W, va_recv hE.1 hP (ci := 2) (q0 := 0) rfl rfl, fun U hU hW => ⟨rfl, by rw [hU], (by rw [hU]; exact hP), hD.weaken (fun _ _ _ _ => trivial), hE.warm hW⟩⟩ rfl rfl hl.1 rfl (lv_room (Nat.le_of_ble_eq_true rfl)) dX2_passDay_40 ⟨by first | exact Nat.le_of_ble_eq_true rfl | (show _ ≤ 0; omega), by first | exact Nat.le_of_ble_eq_true rfl | (show _ ≤ 0; omega)⟩) hS (fun q _ h => hFc q h) hFc (fun u t H1 locs ht hvm hw hB hz1 hk1 hS => ?_)
          rw [ht] at hB
          have hP : va_P E.1 vwCl [(h0, .inr (2, [.ref h1, .int (F 1), .int (F 2), .int (F 3), .int (F 4), .int (F 5)])), (h1, .inl (E.2.1 0, 60, .inl (settleN (pdN N (F 2) (F 3) (F 4) (F 5) ii) ii ((F 5) + (6 * (1 - (nI (ii / 4))))) (fallS (F 2) (tS (F 5) ii)) (F 2))))] H1 := hB
          have hD := hD.same (ws' := [(h0, .inr (2, [.ref h1, .int (F 1), .int (F 2), .int (F 3), .int (F 4), .int (F 5)])), (h1, .inl (E.2.1 0, 60, .inl (settleN (pdN N (F 2) (F 3) (F 4) (F 5) ii) ii ((F 5) + (6 * (1 - (nI (ii / 4))))) (fallS (F 2) (tS (F 5) ii)) (F 2))))]) (by simp only [List.map_cons, List.map_nil])
          generalize H1 = H at hP hS ⊢
          refine lv_aload_n hx hb dX2_passDay_43 rfl (lv_at hl 3 rfl) ?_
          refine lv_iload_n hx hb dX2_passDay_44 rfl (lv_at hl 2 rfl) ?_
          have hFc := va_free (wc := [(h0, .inr (2, [.ref h1, .int (F 1), .int (F 2), .int (F 3), .int (F 4), .int (F 5)])), (h1, .inl (E.2.1 0, 60, .inl (settleN (pdN N (F 2) (F 3) (F 4) (F 5) ii) ii ((F 5) + (6 * (1 - (nI (ii / 4))))) (fallS (F 2) (tS (F 5) ii)) (F 2))))]) hD hS hA [0, 1] rfl
          refine va_callv (va_runV (As := [.int (nI ii)]) (rest := []) ⟨hx, hb, hml, hown, hts⟩ (kX2_blow l E h0 h1 F (settleN (pdN N (F 2) (F 3) (F 4) (F 5) ii) ii ((F 5) + (6 * (1 - (nI (ii / 4))))) (fallS (F 2) (tS (F 5) ii)) (F 2)) ii H.size (by first | omega | assumption | (intro k h; have := hz k h; omega))) (cwV 1 hts gX2_passDay_X2_blow rfl rfl rfl (by decide +kernel) ⟨Nat.le_of_ble_eq_true rfl, Nat.le_of_ble_eq_true rfl⟩) ⟨fb_W, va_recv hE.1 hP (ci := 2) (q0 := 0) rfl rfl, fun U hU hW => ⟨rfl, by rw [hU], (by rw [hU]; exact hP), hD.weaken (fun _ _ _ _ => trivial), hE.warm hW⟩⟩ rfl rfl hl.1 rfl (lv_room (Nat.le_of_ble_eq_true rfl)) dX2_passDay_45 ⟨by first | exact Nat.le_of_ble_eq_true rfl | (show _ ≤ 0; omega), by first | exact Nat.le_of_ble_eq_true rfl | (show _ ≤ 0; omega)⟩) hS (fun q _ h => hFc q h) hFc (fun u t H1 locs ht hvm hw hB hz1 hk1 hS => ?_)
          rw [ht] at hB
          have hP : va_P E.1 vwCl [(h0, .inr (2, [.ref h1, .int (F 1), .int (F 2), .int (F 3), .int (F 4), .int (F 5)])), (h1, .inl (E.2.1 0, 60, .inl (blowN (settleN (pdN N (F 2) (F 3) (F 4) (F 5) ii) ii ((F 5) + (6 * (1 - (nI (ii / 4))))) (fallS (F 2) (tS (F 5) ii)) (F 2)) ii (F 3) (F 4))))] H1 := hB
          have hD := hD.same (ws' := [(h0, .inr (2, [.ref h1, .int (F 1), .int (F 2), .int (F 3), .int (F 4), .int (F 5)])), (h1, .inl (E.2.1 0, 60, .inl (blowN (settleN (pdN N (F 2) (F 3) (F 4) (F 5) ii) ii ((F 5) + (6 * (1 - (nI (ii / 4))))) (fallS (F 2) (tS (F 5) ii)) (F 2)) ii (F 3) (F 4))))]) (by simp only [List.map_cons, List.map_nil])
          generalize H1 = H at hP hS ⊢
          refine lv_aload_n hx hb dX2_passDay_48 rfl (lv_at hl 3 rfl) ?_
          refine lv_iload_n hx hb dX2_passDay_49 rfl (lv_at hl 2 rfl) ?_
          refine lv_iload_n hx hb dX2_passDay_50 rfl (lv_at hl 1 rfl) ?_
          refine lv_iload_n hx hb dX2_passDay_51 rfl (lv_at hl 0 rfl) ?_
          have hFc := va_free (wc := [(h0, .inr (2, [.ref h1, .int (F 1), .int (F 2), .int (F 3), .int (F 4), .int (F 5)])), (h1, .inl (E.2.1 0, 60, .inl (blowN (settleN (pdN N (F 2) (F 3) (F 4) (F 5) ii) ii ((F 5) + (6 * (1 - (nI (ii / 4))))) (fallS (F 2) (tS (F 5) ii)) (F 2)) ii (F 3) (F 4))))]) hD hS hA [0, 1] rfl
          refine va_callv (va_runV (As := [.int (nI ii), .int ((F 5) + (6 * (1 - (nI (ii / 4))))), .int (fallS (F 2) (tS (F 5) ii))]) (rest := []) ⟨hx, hb, hml, hown, hts⟩ (kX2_buryHoar l E h0 h1 F (blowN (settleN (pdN N (F 2) (F 3) (F 4) (F 5) ii) ii ((F 5) + (6 * (1 - (nI (ii / 4))))) (fallS (F 2) (tS (F 5) ii)) (F 2)) ii (F 3) (F 4)) ii ((F 5) + (6 * (1 - (nI (ii / 4))))) (fallS (F 2) (tS (F 5) ii)) H.size (by first | omega | assumption | (intro k h; have := hz k h; omega))) (cwV 3 hts gX2_passDay_X2_buryHoar rfl rfl rfl (by decide +kernel) ⟨Nat.le_of_ble_eq_true rfl, Nat.le_of_ble_eq_true rfl⟩) ⟨fb_W, va_recv hE.1 hP (ci := 2) (q0 := 0) rfl rfl, fun U hU hW => ⟨rfl, by rw [hU], (by rw [hU]; exact hP), hD.weaken (fun _ _ _ _ => trivial), hE.warm hW⟩⟩ rfl rfl hl.1 rfl (lv_room (Nat.le_of_ble_eq_true rfl)) dX2_passDay_52 ⟨by first | exact Nat.le_of_ble_eq_true rfl | (show _ ≤ 0; omega), by first | exact Nat.le_of_ble_eq_true rfl | (show _ ≤ 0; omega)⟩) hS (fun q _ h => hFc q h) hFc (fun u t H1 locs ht hvm hw hB hz1 hk1 hS => ?_)
          rw [ht] at hB
          have hP : va_P E.1 vwCl [(h0, .inr (2, [.ref h1, .int (F 1), .int (F 2), .int (F 3), .int (F 4), .int (F 5)])), (h1, .inl (E.2.1 0, 60, .inl (buryN (blowN (settleN (pdN N (F 2) (F 3) (F 4) (F 5) ii) ii ((F 5) + (6 * (1 - (nI (ii / 4))))) (fallS (F 2) (tS (F 5) ii)) (F 2)) ii (F 3) (F 4)) ii ((F 5) + (6 * (1 - (nI (ii / 4))))) (fallS (F 2) (tS (F 5) ii)) (F 3))))] H1 := hB
          have hD := hD.same (ws' := [(h0, .inr (2, [.ref h1, .int (F 1), .int (F 2), .int (F 3), .int (F 4), .int (F 5)])), (h1, .inl (E.2.1 0, 60, .inl (buryN (blowN (settleN (pdN N (F 2) (F 3) (F 4) (F 5) ii) ii ((F 5) + (6 * (1 - (nI (ii / 4))))) (fallS (F 2) (tS (F 5) ii)) (F 2)) ii (F 3) (F 4)) ii ((F 5) + (6 * (1 - (nI (ii / 4))))) (fallS (F 2) (tS (F 5) ii)) (F 3))))]) (by simp only [List.map_cons, List.map_nil])
          generalize H1 = H at hP hS ⊢
          refine lv_aload_n hx hb dX2_passDay_55 rfl (lv_at hl 3 rfl) ?_
          refine lv_iload_n hx hb dX2_passDay_56 rfl (lv_at hl 2 rfl) ?_
          refine lv_iload_n hx hb dX2_passDay_57 rfl (lv_at hl 1 rfl) ?_
          have hFc := va_free (wc := [(h0, .inr (2, [.ref h1, .int (F 1), .int (F 2), .int (F 3), .int (F 4), .int (F 5)])), (h1, .inl (E.2.1 0, 60, .inl (buryN (blowN (settleN (pdN N (F 2) (F 3) (F 4) (F 5) ii) ii ((F 5) + (6 * (1 - (nI (ii / 4))))) (fallS (F 2) (tS (F 5) ii)) (F 2)) ii (F 3) (F 4)) ii ((F 5) + (6 * (1 - (nI (ii / 4))))) (fallS (F 2) (tS (F 5) ii)) (F 3))))]) hD hS hA [0, 1] rfl
          refine va_callv (va_runV (As := [.int (nI ii), .int ((F 5) + (6 * (1 - (nI (ii / 4)))))]) (rest := []) ⟨hx, hb, hml, hown, hts⟩ (kX2_thaw l E h0 h1 F (buryN (blowN (settleN (pdN N (F 2) (F 3) (F 4) (F 5) ii) ii ((F 5) + (6 * (1 - (nI (ii / 4))))) (fallS (F 2) (tS (F 5) ii)) (F 2)) ii (F 3) (F 4)) ii ((F 5) + (6 * (1 - (nI (ii / 4))))) (fallS (F 2) (tS (F 5) ii)) (F 3)) ii ((F 5) + (6 * (1 - (nI (ii / 4))))) H.size (by first | omega | assumption | (intro k h; have := hz k h; omega))) (cwV 2 hts gX2_passDay_X2_thaw rfl rfl rfl (by decide +kernel) ⟨Nat.le_of_ble_eq_true rfl, Nat.le_of_ble_eq_true rfl⟩) ⟨fb_W, va_recv hE.1 hP (ci := 2) (q0 := 0) rfl rfl, fun U hU hW => ⟨rfl, by rw [hU], (by rw [hU]; exact hP), hD.weaken (fun _ _ _ _ => trivial), hE.warm hW⟩⟩ rfl rfl hl.1 rfl (lv_room (Nat.le_of_ble_eq_true rfl)) dX2_passDay_58 ⟨by first | exact Nat.le_of_ble_eq_true rfl | (show _ ≤ 0; omega), by first | exact Nat.le_of_ble_eq_true rfl | (show _ ≤ 0; omega)⟩) hS (fun q _ h => hFc q h) hFc (fun u t H1 locs ht hvm hw hB hz1 hk1 hS => ?_)
          rw [ht] at hB
          have hP : va_P E.1 vwCl [(h0, .inr (2, [.ref h1, .int (F 1), .int (F 2), .int (F 3), .int (F 4), .int (F 5)])), (h1, .inl (E.2.1 0, 60, .inl (thawN (buryN (blowN (settleN (pdN N (F 2) (F 3) (F 4) (F 5) ii) ii ((F 5) + (6 * (1 - (nI (ii / 4))))) (fallS (F 2) (tS (F 5) ii)) (F 2)) ii (F 3) (F 4)) ii ((F 5) + (6 * (1 - (nI (ii / 4))))) (fallS (F 2) (tS (F 5) ii)) (F 3)) ii ((F 5) + (6 * (1 - (nI (ii / 4))))))))] H1 := hB
          have hD := hD.same (ws' := [(h0, .inr (2, [.ref h1, .int (F 1), .int (F 2), .int (F 3), .int (F 4), .int (F 5)])), (h1, .inl (E.2.1 0, 60, .inl (thawN (buryN (blowN (settleN (pdN N (F 2) (F 3) (F 4) (F 5) ii) ii ((F 5) + (6 * (1 - (nI (ii / 4))))) (fallS (F 2) (tS (F 5) ii)) (F 2)) ii (F 3) (F 4)) ii ((F 5) + (6 * (1 - (nI (ii / 4))))) (fallS (F 2) (tS (F 5) ii)) (F 3)) ii ((F 5) + (6 * (1 - (nI (ii / 4))))))))]) (by simp only [List.map_cons, List.map_nil])
          generalize H1 = H at hP hS ⊢
          refine mz_iinc (k := 2) (lv' := [(1, .int (nI (ii + 1))), (3, .int (fallS (F 2) (tS (F 5) ii))), (2, .int ((F 5) + (6 * (1 - (nI (ii / 4)))))), (0, .ref h0)]) hx hb ii 1 dX2_passDay_61 hl rfl (by decide) rfl (fun ls hl => ?_)
          refine lv_goto (tgt := 2) hx hb dX2_passDay_64 (by decide) ?_
          exact ih2 (ii + 1) (by omega) (by omega) _ _ _ hP hD hS (lv_sub hl [0, 3] rfl)
        refine lv_iload_n hx hb dX2_passDay_22 rfl (lv_at hl 0 rfl) ?_
        refine lv_iconst (v := 1) hx hb dX2_passDay_23 (by decide) ?_
        refine mz_gt (tgt := 34) hx hb dX2_passDay_24 (by decide) (fun c_24 => ?_) (fun c_24 => ?_)
        · refine lv_iconst (v := 0) hx hb dX2_passDay_34 (by decide) ?_
          exact KJ35 0 (by first | (simp only [fallS, tS, if_pos c_5, if_pos c_24]; done) | (try unfold fallS; try unfold tS; simp only [if_pos c_5, if_pos c_24]; done) | (try unfold fallS; try unfold tS; rfl) | rfl) _ _ _ hP hD hS (lv_sub hl [0, 1, 2] rfl)
        · refine lv_aload_n hx hb dX2_passDay_27 rfl (lv_at hl 2 rfl) ?_
          refine va_get (D := E.1) (ci := 2) (v := .int (F 2)) (C := RX2) (T := TX2) (N := 6) hx hb hts inX2 hown hE.1 hP 0 rfl rfl 2 (by decide) f_39 (fun _ h9 => h9) rfl dX2_passDay_28 ?_
          refine lv_goto (tgt := 35) hx hb dX2_passDay_31 (by decide) ?_
          exact KJ35 (F 2) (by first | (simp only [fallS, tS, if_pos c_5, if_neg c_24]; done) | (try unfold fallS; try unfold tS; simp only [if_pos c_5, if_neg c_24]; done) | (try unfold fallS; try unfold tS; rfl) | rfl) _ _ _ hP hD hS (lv_sub hl [0, 1, 2] rfl)
  exact KL2 (12 + 1 - 0) 0 (by omega) (by omega) _ _ _ hP hD hS (lv_sub hl [0, 1] rfl)
set_option maxHeartbeats 4000000 in
set_option maxRecDepth 100000 in
theorem kX2_problemAt (l : Launch) (E : ev_T) (h0 : Nat) (h1 : Nat) (F : Nat → Int32) (N : Nat → Int32) (sc : Nat) (pb : Nat) (hs : sc < 12) (hq : pb < 4) : Met l yX2_problemAt wsX2_problemAt ({ frames := 1, cells := 0, slots := 0, locals := 22 } : Room) (va_Pc [.ref h0, .int (nI sc), .int (nI pb)] (pr_R E [(h0, .inr (2, [.ref h1, .int (F 1), .int (F 2), .int (F 3), .int (F 4), .int (F 5)])), (h1, .inl (E.2.1 0, 60, .inl N))])) (va_Qi (fun (r : Int32) (_ : Unit) => r = prR (rw5 N sc) pb) (fun _ _ => True) (fun _ : Nat => False)) 0 0 (fun _ : Nat => False) := by
  refine Met.ofW (cc := cX2_problemAt) (maxL := 5) (ret := (some .int)) (by decide) rfl ?_
  intro p e s m args below meth c s₁ B hml hv
  obtain ⟨rfl, hP, hE⟩ := hv
  have hx := B.exec
  have hb := B.bytes
  have hr := B.returns
  have hts := atoms_spec (ws := wsX2_problemAt) B.pre
  have hown : s.vm.findClass RX2 = some m.cls := findClass_of_methodNamed B.named
  have hlocks := B.notSynchronized
  refine mz_start (fun H locs hH hL => ?_)
  have hS : va_S (fun _ : Nat => False) s.heap H locs := by rw [hH, hL]; exact va_S.rf
  have ml_23 := hts (.methodLink RX2 23 Lib.Math.min.name) (by decide +kernel)
  have ms_min := hts (.static Lib.Math.min.name) (by decide +kernel)
  have mi := hts (.initialized "java/lang/Math") (by decide +kernel)
  have mc_min := hts (.code Lib.Math.min.name Lib.Math.min.code 2 (some .int)) (by decide +kernel)
  have hl := lv_entry ([.ref h0, .int (nI sc), .int (nI pb)]) (n := 5) (Nat.le_of_ble_eq_true rfl)
  rw [lg_entry_eq]
  generalize (lg_sl ([.ref h0, .int (nI sc), .int (nI pb)]) ++ List.replicate (5 - (lg_sl ([.ref h0, .int (nI sc), .int (nI pb)])).length) Slot.unset).toArray = ls at hl ⊢
  have hl : lv_has ls 5 [(0, .ref h0), (1, .int (nI sc)), (2, .int (nI pb))] := hl
  have hP : va_P E.1 vwCl [(h0, .inr (2, [.ref h1, .int (F 1), .int (F 2), .int (F 3), .int (F 4), .int (F 5)])), (h1, .inl (E.2.1 0, 60, .inl N))] H := by rw [hH]; exact hP
  refine lv_aload_n hx hb dX2_problemAt_0 rfl (lv_at hl 0 rfl) ?_
  refine lv_iload_n hx hb dX2_problemAt_1 rfl (lv_at hl 1 rfl) ?_
  refine lv_iload_n hx hb dX2_problemAt_2 rfl (lv_at hl 2 rfl) ?_
  refine va_calli (va_runV (As := [.int (nI sc), .int (nI pb)]) (rest := []) ⟨hx, hb, hml, hown, hts⟩ (kX2_numberAt l E h0 h1 F N sc pb (by first | omega | assumption | (intro k h; have := hz k h; omega)) (by first | omega | assumption | (intro k h; have := hz k h; omega))) (cwV 2 hts gX2_problemAt_X2_numberAt rfl rfl rfl (by decide +kernel) ⟨Nat.le_of_ble_eq_true rfl, Nat.le_of_ble_eq_true rfl⟩) ⟨fb_R, va_recv hE.1 hP (ci := 2) (q0 := 0) rfl rfl, fun U hU hW => ⟨rfl, (by rw [hU]; exact hP), hE.warm hW⟩⟩ rfl rfl hl.1 rfl (lv_room (Nat.le_of_ble_eq_true rfl)) dX2_problemAt_3 ⟨by first | exact Nat.le_of_ble_eq_true rfl | (show _ ≤ 0; omega), by first | exact Nat.le_of_ble_eq_true rfl | (show _ ≤ 0; omega)⟩) hS (fun q _ h => h.elim) (fun q h => h.elim) (fun r3_0 u t H1 locs ht hvm hw hB hz1 hk1 hS => ?_)
  have hP := hP.ro hk1
  generalize H1 = H at hP hS ⊢
  subst hw
  refine lv_istore_n (lv' := [(3, .int (N (sc * 5 + pb))), (0, .ref h0), (1, .int (nI sc)), (2, .int (nI pb))]) hx hb dX2_problemAt_6 rfl hl (by decide) rfl (fun ls hl => ?_)
  refine lv_iload_n hx hb dX2_problemAt_7 rfl (lv_at hl 3 rfl) ?_
  refine lv_iconst (v := 2) hx hb dX2_problemAt_8 (by decide) ?_
  refine mz_eqN hx hb pb 2 (tgt := 14) dX2_problemAt_9 (by decide) (by omega) (by omega) (fun c_9 => ?_) (fun c_9 => ?_)
  · refine lv_aload_n hx hb dX2_problemAt_14 rfl (lv_at hl 1 rfl) ?_
    refine lv_iload_n hx hb dX2_problemAt_15 rfl (lv_at hl 2 rfl) ?_
    refine lv_iconst (v := 0) hx hb dX2_problemAt_16 (by decide) ?_
    refine va_calli (va_runV (As := [.int (nI sc), .int 0]) (rest := []) ⟨hx, hb, hml, hown, hts⟩ (kX2_numberAt l E h0 h1 F N sc 0 (by first | omega | assumption | (intro k h; have := hz k h; omega)) (by first | omega | assumption | (intro k h; have := hz k h; omega))) (cwV 2 hts gX2_problemAt_X2_numberAt rfl rfl rfl (by decide +kernel) ⟨Nat.le_of_ble_eq_true rfl, Nat.le_of_ble_eq_true rfl⟩) ⟨fb_R, va_recv hE.1 hP (ci := 2) (q0 := 0) rfl rfl, fun U hU hW => ⟨rfl, (by rw [hU]; exact hP), hE.warm hW⟩⟩ rfl rfl hl.1 rfl (lv_room (Nat.le_of_ble_eq_true rfl)) dX2_problemAt_17 ⟨by first | exact Nat.le_of_ble_eq_true rfl | (show _ ≤ 0; omega), by first | exact Nat.le_of_ble_eq_true rfl | (show _ ≤ 0; omega)⟩) hS (fun q _ h => h.elim) (fun q h => h.elim) (fun r17_1 u t H1 locs ht hvm hw hB hz1 hk1 hS => ?_)
    have hP := hP.ro hk1
    generalize H1 = H at hP hS ⊢
    subst hw
    refine lv_aload_n hx hb dX2_problemAt_20 rfl (lv_at hl 1 rfl) ?_
    refine lv_iload_n hx hb dX2_problemAt_21 rfl (lv_at hl 2 rfl) ?_
    refine lv_iconst (v := 1) hx hb dX2_problemAt_22 (by decide) ?_
    refine va_calli (va_runV (As := [.int (nI sc), .int 1]) (rest := [.int (N (sc * 5 + 0))]) ⟨hx, hb, hml, hown, hts⟩ (kX2_numberAt l E h0 h1 F N sc 1 (by first | omega | assumption | (intro k h; have := hz k h; omega)) (by first | omega | assumption | (intro k h; have := hz k h; omega))) (cwV 2 hts gX2_problemAt_X2_numberAt rfl rfl rfl (by decide +kernel) ⟨Nat.le_of_ble_eq_true rfl, Nat.le_of_ble_eq_true rfl⟩) ⟨fb_R, va_recv hE.1 hP (ci := 2) (q0 := 0) rfl rfl, fun U hU hW => ⟨rfl, (by rw [hU]; exact hP), hE.warm hW⟩⟩ rfl rfl hl.1 rfl (lv_room (Nat.le_of_ble_eq_true rfl)) dX2_problemAt_23 ⟨by first | exact Nat.le_of_ble_eq_true rfl | (show _ ≤ 0; omega), by first | exact Nat.le_of_ble_eq_true rfl | (show _ ≤ 0; omega)⟩) hS (fun q _ h => h.elim) (fun q h => h.elim) (fun r23_2 u t H1 locs ht hvm hw hB hz1 hk1 hS => ?_)
    have hP := hP.ro hk1
    generalize H1 = H at hP hS ⊢
    subst hw
    refine lv_iadd hx hb dX2_problemAt_26 ?_
    refine lv_istore (lv' := [(4, .int ((N (sc * 5 + 0)) + (N (sc * 5 + 1)))), (3, .int (N (sc * 5 + pb))), (0, .ref h0), (1, .int (nI sc)), (2, .int (nI pb))]) hx hb dX2_problemAt_27 hl (by decide) rfl (fun ls hl => ?_)
    refine lv_iload_n hx hb dX2_problemAt_29 rfl (lv_at hl 1 rfl) ?_
    refine lv_bipush (v := 100) hx hb dX2_problemAt_30 (by decide) ?_
    refine lv_iload hx hb dX2_problemAt_32 (lv_at hl 0 rfl) ?_
    refine mz_min hx hb (hml.trans hl.1.symm) hown ml_23 ms_min mi mc_min (Nat.le_of_ble_eq_true rfl) (Nat.le_of_ble_eq_true rfl) (by first | exact Nat.le_of_ble_eq_true rfl | (show _ ≤ 0; omega)) (by first | exact Nat.le_of_ble_eq_true rfl | (show _ ≤ 0; omega)) dX2_problemAt_34 ?_
    refine lv_imul hx hb dX2_problemAt_37 ?_
    refine lv_bipush (v := 100) hx hb dX2_problemAt_38 (by decide) ?_
    refine lv_idiv hx hb dX2_problemAt_40 (by decide) ?_
    exact W.iret (v := ((N (sc * 5 + pb)) * (mn 100 ((N (sc * 5 + 0)) + (N (sc * 5 + 1))))) / 100) hx hb hr (fun t ht hW => ⟨⟨_, (), rfl, (by first | (simp only [prR, rw5, if_pos c_9]; done) | (try unfold prR; try unfold rw5; simp only [if_pos c_9]; done) | (try unfold prR; try unfold rw5; rfl) | rfl), trivial⟩, hS.F ht⟩) hS.2.2 dX2_problemAt_41
  · refine lv_iload_n hx hb dX2_problemAt_12 rfl (lv_at hl 0 rfl) ?_
    exact W.iret (v := N (sc * 5 + pb)) hx hb hr (fun t ht hW => ⟨⟨_, (), rfl, (by first | (simp only [prR, rw5, if_neg c_9]; done) | (try unfold prR; try unfold rw5; simp only [if_neg c_9]; done) | (try unfold prR; try unfold rw5; rfl) | rfl), trivial⟩, hS.F ht⟩) hS.2.2 dX2_problemAt_13
set_option maxHeartbeats 4000000 in
set_option maxRecDepth 100000 in
theorem kX2_dangerAt (l : Launch) (E : ev_T) (h0 : Nat) (h1 : Nat) (F : Nat → Int32) (N : Nat → Int32) (sc : Nat) (hs : sc < 12) : Met l yX2_dangerAt wsX2_dangerAt ({ frames := 2, cells := 0, slots := 0, locals := 46 } : Room) (va_Pc [.ref h0, .int (nI sc)] (pr_R E [(h0, .inr (2, [.ref h1, .int (F 1), .int (F 2), .int (F 3), .int (F 4), .int (F 5)])), (h1, .inl (E.2.1 0, 60, .inl N))])) (va_Qi (fun (r : Int32) (_ : Unit) => r = dngA (rw5 N sc)) (fun _ _ => True) (fun _ : Nat => False)) 0 0 (fun _ : Nat => False) := by
  refine Met.ofW (cc := cX2_dangerAt) (maxL := 6) (ret := (some .int)) (by decide) rfl ?_
  intro p e s m args below meth c s₁ B hml hv
  obtain ⟨rfl, hP, hE⟩ := hv
  have hx := B.exec
  have hb := B.bytes
  have hr := B.returns
  have hts := atoms_spec (ws := wsX2_dangerAt) B.pre
  have hown : s.vm.findClass RX2 = some m.cls := findClass_of_methodNamed B.named
  have hlocks := B.notSynchronized
  refine mz_start (fun H locs hH hL => ?_)
  have hS : va_S (fun _ : Nat => False) s.heap H locs := by rw [hH, hL]; exact va_S.rf
  have ml_23 := hts (.methodLink RX2 23 Lib.Math.min.name) (by decide +kernel)
  have ms_min := hts (.static Lib.Math.min.name) (by decide +kernel)
  have mi := hts (.initialized "java/lang/Math") (by decide +kernel)
  have mc_min := hts (.code Lib.Math.min.name Lib.Math.min.code 2 (some .int)) (by decide +kernel)
  have ml_82 := hts (.methodLink RX2 82 Lib.Math.max.name) (by decide +kernel)
  have ms_max := hts (.static Lib.Math.max.name) (by decide +kernel)
  have mc_max := hts (.code Lib.Math.max.name Lib.Math.max.code 2 (some .int)) (by decide +kernel)
  have hl := lv_entry ([.ref h0, .int (nI sc)]) (n := 6) (Nat.le_of_ble_eq_true rfl)
  rw [lg_entry_eq]
  generalize (lg_sl ([.ref h0, .int (nI sc)]) ++ List.replicate (6 - (lg_sl ([.ref h0, .int (nI sc)])).length) Slot.unset).toArray = ls at hl ⊢
  have hl : lv_has ls 6 [(0, .ref h0), (1, .int (nI sc))] := hl
  have hP : va_P E.1 vwCl [(h0, .inr (2, [.ref h1, .int (F 1), .int (F 2), .int (F 3), .int (F 4), .int (F 5)])), (h1, .inl (E.2.1 0, 60, .inl N))] H := by rw [hH]; exact hP
  refine lv_iconst (v := 0) hx hb dX2_dangerAt_0 (by decide) ?_
  refine lv_istore_n (lv' := [(2, .int 0), (0, .ref h0), (1, .int (nI sc))]) hx hb dX2_dangerAt_1 rfl hl (by decide) rfl (fun ls hl => ?_)
  refine lv_iconst (v := 0) hx hb dX2_dangerAt_2 (by decide) ?_
  refine lv_istore_n (lv' := [(3, .int 0), (2, .int 0), (0, .ref h0), (1, .int (nI sc))]) hx hb dX2_dangerAt_3 rfl hl (by decide) rfl (fun ls hl => ?_)
  refine lv_iconst (v := 0) hx hb dX2_dangerAt_4 (by decide) ?_
  refine lv_istore (lv' := [(4, .int 0), (3, .int 0), (2, .int 0), (0, .ref h0), (1, .int (nI sc))]) hx hb dX2_dangerAt_5 hl (by decide) rfl (fun ls hl => ?_)
  have KL7 : ∀ (n7 ii : Nat), ii ≤ 4 → 4 < n7 + ii → ∀ (H : Heap) (locs : List Loc) (ls : Array Slot), va_P E.1 vwCl [(h0, .inr (2, [.ref h1, .int (F 1), .int (F 2), .int (F 3), .int (F 4), .int (F 5)])), (h1, .inl (E.2.1 0, 60, .inl N))] H → va_S (fun _ : Nat => False) s.heap H locs → lv_has ls 6 [(4, .int (nI ii)), (3, .int ((dgA (rw5 N sc) ii).2)), (2, .int ((dgA (rw5 N sc) ii).1)), (0, .ref h0), (1, .int (nI sc))] → W p l e (headSpec wsX2_dangerAt ({ frames := 2, cells := 0, slots := 0, locals := 46 } : Room)).room s m [.ref h0, .int (nI sc)].toArray below meth c H locs 0 0 (MQ below (va_Qi (fun (r : Int32) (_ : Unit) => r = dngA (rw5 N sc)) (fun _ _ => True) (fun _ : Nat => False)) [.ref h0, .int (nI sc)].toArray s 0 0 (fun _ : Nat => False)) (F0 m 7 ls []) := by
    intro n7
    induction n7 with
    | zero => intro ii h1 h2; exact absurd h2 (by omega)
    | succ n7 ih7 =>
      intro ii hi7 hn7 H locs ls hP hS hl
      refine lv_iload hx hb dX2_dangerAt_7 (lv_at hl 0 rfl) ?_
      refine lv_iconst (v := 4) hx hb dX2_dangerAt_9 (by decide) ?_
      refine mz_geN hx hb ii 4 (tgt := 46) dX2_dangerAt_10 (by decide) (by omega) (by omega) (fun c_10 => ?_) (fun c_10 => ?_)
      · have hq99 : ii = 4 := by omega
        subst ii
        refine lv_iload_n hx hb dX2_dangerAt_46 rfl (lv_at hl 2 rfl) ?_
        refine lv_iload_n hx hb dX2_dangerAt_47 rfl (lv_at hl 1 rfl) ?_
        refine lv_iconst (v := 4) hx hb dX2_dangerAt_48 (by decide) ?_
        refine lv_idiv hx hb dX2_dangerAt_49 (by decide) ?_
        refine lv_iadd hx hb dX2_dangerAt_50 ?_
        exact W.iret (v := ((dgA (rw5 N sc) 4).1) + (((dgA (rw5 N sc) 4).2) / 4)) hx hb hr (fun t ht hW => ⟨⟨_, (), rfl, (by first | rfl), trivial⟩, hS.F ht⟩) hS.2.2 dX2_dangerAt_51
      · refine lv_aload_n hx hb dX2_dangerAt_13 rfl (lv_at hl 3 rfl) ?_
        refine lv_iload_n hx hb dX2_dangerAt_14 rfl (lv_at hl 4 rfl) ?_
        refine lv_iload hx hb dX2_dangerAt_15 (lv_at hl 0 rfl) ?_
        refine va_calli (va_runV (As := [.int (nI sc), .int (nI ii)]) (rest := []) ⟨hx, hb, hml, hown, hts⟩ (kX2_problemAt l E h0 h1 F N sc ii (by first | omega | assumption | (intro k h; have := hz k h; omega)) (by first | omega | assumption | (intro k h; have := hz k h; omega))) (cwV 2 hts gX2_dangerAt_X2_problemAt rfl rfl rfl (by decide +kernel) ⟨Nat.le_of_ble_eq_true rfl, Nat.le_of_ble_eq_true rfl⟩) ⟨fb_R, va_recv hE.1 hP (ci := 2) (q0 := 0) rfl rfl, fun U hU hW => ⟨rfl, (by rw [hU]; exact hP), hE.warm hW⟩⟩ rfl rfl hl.1 rfl (lv_room (Nat.le_of_ble_eq_true rfl)) dX2_dangerAt_17 ⟨by first | exact Nat.le_of_ble_eq_true rfl | (show _ ≤ 0; omega), by first | exact Nat.le_of_ble_eq_true rfl | (show _ ≤ 0; omega)⟩) hS (fun q _ h => h.elim) (fun q h => h.elim) (fun r17_0 u t H1 locs ht hvm hw hB hz1 hk1 hS => ?_)
        have hP := hP.ro hk1
        generalize H1 = H at hP hS ⊢
        subst hw
        refine lv_istore (lv' := [(5, .int (prR (rw5 N sc) ii)), (4, .int (nI ii)), (3, .int ((dgA (rw5 N sc) ii).2)), (2, .int ((dgA (rw5 N sc) ii).1)), (0, .ref h0), (1, .int (nI sc))]) hx hb dX2_dangerAt_20 hl (by decide) rfl (fun ls hl => ?_)
        refine lv_iload_n hx hb dX2_dangerAt_22 rfl (lv_at hl 2 rfl) ?_
        refine lv_iload hx hb dX2_dangerAt_23 (lv_at hl 0 rfl) ?_
        refine lv_iload_n hx hb dX2_dangerAt_25 rfl (lv_at hl 3 rfl) ?_
        refine mz_min hx hb (hml.trans hl.1.symm) hown ml_23 ms_min mi mc_min (Nat.le_of_ble_eq_true rfl) (Nat.le_of_ble_eq_true rfl) (by first | exact Nat.le_of_ble_eq_true rfl | (show _ ≤ 0; omega)) (by first | exact Nat.le_of_ble_eq_true rfl | (show _ ≤ 0; omega)) dX2_dangerAt_26 ?_
        refine mz_max hx hb (hml.trans hl.1.symm) hown ml_82 ms_max mi mc_max (Nat.le_of_ble_eq_true rfl) (Nat.le_of_ble_eq_true rfl) (by first | exact Nat.le_of_ble_eq_true rfl | (show _ ≤ 0; omega)) (by first | exact Nat.le_of_ble_eq_true rfl | (show _ ≤ 0; omega)) dX2_dangerAt_29 ?_
        refine lv_istore_n (lv' := [(3, .int (mx ((dgA (rw5 N sc) ii).2) (mn (prR (rw5 N sc) ii) ((dgA (rw5 N sc) ii).1)))), (5, .int (prR (rw5 N sc) ii)), (4, .int (nI ii)), (2, .int ((dgA (rw5 N sc) ii).1)), (0, .ref h0), (1, .int (nI sc))]) hx hb dX2_dangerAt_32 rfl hl (by decide) rfl (fun ls hl => ?_)
        refine lv_iload_n hx hb dX2_dangerAt_33 rfl (lv_at hl 3 rfl) ?_
        refine lv_iload hx hb dX2_dangerAt_34 (lv_at hl 1 rfl) ?_
        refine mz_max hx hb (hml.trans hl.1.symm) hown ml_82 ms_max mi mc_max (Nat.le_of_ble_eq_true rfl) (Nat.le_of_ble_eq_true rfl) (by first | exact Nat.le_of_ble_eq_true rfl | (show _ ≤ 0; omega)) (by first | exact Nat.le_of_ble_eq_true rfl | (show _ ≤ 0; omega)) dX2_dangerAt_36 ?_
        refine lv_istore_n (lv' := [(2, .int (mx ((dgA (rw5 N sc) ii).1) (prR (rw5 N sc) ii))), (3, .int (mx ((dgA (rw5 N sc) ii).2) (mn (prR (rw5 N sc) ii) ((dgA (rw5 N sc) ii).1)))), (5, .int (prR (rw5 N sc) ii)), (4, .int (nI ii)), (0, .ref h0), (1, .int (nI sc))]) hx hb dX2_dangerAt_39 rfl hl (by decide) rfl (fun ls hl => ?_)
        refine mz_iinc (k := 3) (lv' := [(4, .int (nI (ii + 1))), (2, .int (mx ((dgA (rw5 N sc) ii).1) (prR (rw5 N sc) ii))), (3, .int (mx ((dgA (rw5 N sc) ii).2) (mn (prR (rw5 N sc) ii) ((dgA (rw5 N sc) ii).1)))), (5, .int (prR (rw5 N sc) ii)), (0, .ref h0), (1, .int (nI sc))]) hx hb ii 1 dX2_dangerAt_40 hl rfl (by decide) rfl (fun ls hl => ?_)
        refine lv_goto (tgt := 7) hx hb dX2_dangerAt_43 (by decide) ?_
        exact ih7 (ii + 1) (by omega) (by omega) _ _ _ hP hS (lv_sub hl [0, 2, 1, 4, 5] rfl)
  exact KL7 (4 + 1 - 0) 0 (by omega) (by omega) _ _ _ hP hS (lv_sub hl [0, 1, 2, 3, 4] rfl)
set_option maxHeartbeats 4000000 in
set_option maxRecDepth 100000 in
theorem kX2_findLevel (l : Launch) (E : ev_T) (h0 : Nat) (h1 : Nat) (F : Nat → Int32) (N : Nat → Int32) : Met l yX2_findLevel wsX2_findLevel ({ frames := 3, cells := 0, slots := 0, locals := 71 } : Room) (va_Pc [.ref h0] (pr_R E [(h0, .inr (2, [.ref h1, .int (F 1), .int (F 2), .int (F 3), .int (F 4), .int (F 5)])), (h1, .inl (E.2.1 0, 60, .inl N))])) (va_Qi (fun (r : Int32) (_ : Unit) => r = levA N) (fun _ _ => True) (fun _ : Nat => False)) 0 0 (fun _ : Nat => False) := by
  refine Met.ofW (cc := cX2_findLevel) (maxL := 5) (ret := (some .int)) (by decide) rfl ?_
  intro p e s m args below meth c s₁ B hml hv
  obtain ⟨rfl, hP, hE⟩ := hv
  have hx := B.exec
  have hb := B.bytes
  have hr := B.returns
  have hts := atoms_spec (ws := wsX2_findLevel) B.pre
  have hown : s.vm.findClass RX2 = some m.cls := findClass_of_methodNamed B.named
  have hlocks := B.notSynchronized
  refine mz_start (fun H locs hH hL => ?_)
  have hS : va_S (fun _ : Nat => False) s.heap H locs := by rw [hH, hL]; exact va_S.rf
  have ml_23 := hts (.methodLink RX2 23 Lib.Math.min.name) (by decide +kernel)
  have ms_min := hts (.static Lib.Math.min.name) (by decide +kernel)
  have mi := hts (.initialized "java/lang/Math") (by decide +kernel)
  have mc_min := hts (.code Lib.Math.min.name Lib.Math.min.code 2 (some .int)) (by decide +kernel)
  have ml_82 := hts (.methodLink RX2 82 Lib.Math.max.name) (by decide +kernel)
  have ms_max := hts (.static Lib.Math.max.name) (by decide +kernel)
  have mc_max := hts (.code Lib.Math.max.name Lib.Math.max.code 2 (some .int)) (by decide +kernel)
  have hl := lv_entry ([.ref h0]) (n := 5) (Nat.le_of_ble_eq_true rfl)
  rw [lg_entry_eq]
  generalize (lg_sl ([.ref h0]) ++ List.replicate (5 - (lg_sl ([.ref h0])).length) Slot.unset).toArray = ls at hl ⊢
  have hl : lv_has ls 5 [(0, .ref h0)] := hl
  have hP : va_P E.1 vwCl [(h0, .inr (2, [.ref h1, .int (F 1), .int (F 2), .int (F 3), .int (F 4), .int (F 5)])), (h1, .inl (E.2.1 0, 60, .inl N))] H := by rw [hH]; exact hP
  refine lv_iconst (v := 0) hx hb dX2_findLevel_0 (by decide) ?_
  refine lv_istore_n (lv' := [(1, .int 0), (0, .ref h0)]) hx hb dX2_findLevel_1 rfl hl (by decide) rfl (fun ls hl => ?_)
  refine lv_iconst (v := 0) hx hb dX2_findLevel_2 (by decide) ?_
  refine lv_istore_n (lv' := [(2, .int 0), (1, .int 0), (0, .ref h0)]) hx hb dX2_findLevel_3 rfl hl (by decide) rfl (fun ls hl => ?_)
  refine lv_iconst (v := 0) hx hb dX2_findLevel_4 (by decide) ?_
  refine lv_istore_n (lv' := [(3, .int 0), (2, .int 0), (1, .int 0), (0, .ref h0)]) hx hb dX2_findLevel_5 rfl hl (by decide) rfl (fun ls hl => ?_)
  have KL6 : ∀ (n6 ii : Nat), ii ≤ 12 → 12 < n6 + ii → ∀ (H : Heap) (locs : List Loc) (ls : Array Slot), va_P E.1 vwCl [(h0, .inr (2, [.ref h1, .int (F 1), .int (F 2), .int (F 3), .int (F 4), .int (F 5)])), (h1, .inl (E.2.1 0, 60, .inl N))] H → va_S (fun _ : Nat => False) s.heap H locs → lv_has ls 5 [(3, .int (nI ii)), (2, .int ((flA N ii).2)), (1, .int ((flA N ii).1)), (0, .ref h0)] → W p l e (headSpec wsX2_findLevel ({ frames := 3, cells := 0, slots := 0, locals := 71 } : Room)).room s m [.ref h0].toArray below meth c H locs 0 0 (MQ below (va_Qi (fun (r : Int32) (_ : Unit) => r = levA N) (fun _ _ => True) (fun _ : Nat => False)) [.ref h0].toArray s 0 0 (fun _ : Nat => False)) (F0 m 6 ls []) := by
    intro n6
    induction n6 with
    | zero => intro ii h1 h2; exact absurd h2 (by omega)
    | succ n6 ih6 =>
      intro ii hi6 hn6 H locs ls hP hS hl
      refine lv_iload_n hx hb dX2_findLevel_6 rfl (lv_at hl 0 rfl) ?_
      refine lv_bipush (v := 12) hx hb dX2_findLevel_7 (by decide) ?_
      refine mz_geN hx hb ii 12 (tgt := 43) dX2_findLevel_9 (by decide) (by omega) (by omega) (fun c_9 => ?_) (fun c_9 => ?_)
      · have hq99 : ii = 12 := by omega
        subst ii
        refine lv_iload_n hx hb dX2_findLevel_43 rfl (lv_at hl 1 rfl) ?_
        refine va_calli (va_runS (As := [.int ((flA N 12).2)]) (rest := []) ⟨hx, hb, hml, hown, hts⟩ (kX2_levelOfDanger l E ((flA N 12).2)) (va_cwS 1 hts gX2_findLevel_X2_levelOfDanger rfl rfl rfl (by decide +kernel) ⟨Nat.le_of_ble_eq_true rfl, Nat.le_of_ble_eq_true rfl⟩) ⟨fb_0, fun U hU hW => ⟨rfl, trivial⟩⟩ rfl rfl hl.1 rfl (lv_room (Nat.le_of_ble_eq_true rfl)) dX2_findLevel_44 ⟨by first | exact Nat.le_of_ble_eq_true rfl | (show _ ≤ 0; omega), by first | exact Nat.le_of_ble_eq_true rfl | (show _ ≤ 0; omega)⟩) hS (fun q _ h => h.elim) (fun q h => h.elim) (fun r44_0 u t H1 locs ht hvm hw hB hz1 hk1 hS => ?_)
        have hP := hP.ro hk1
        generalize H1 = H at hP hS ⊢
        subst hw
        exact W.iret (v := lvD ((flA N 12).2)) hx hb hr (fun t ht hW => ⟨⟨_, (), rfl, (by first | rfl), trivial⟩, hS.F ht⟩) hS.2.2 dX2_findLevel_47
      · refine lv_aload_n hx hb dX2_findLevel_12 rfl (lv_at hl 3 rfl) ?_
        refine lv_iload_n hx hb dX2_findLevel_13 rfl (lv_at hl 0 rfl) ?_
        refine va_calli (va_runV (As := [.int (nI ii)]) (rest := []) ⟨hx, hb, hml, hown, hts⟩ (kX2_dangerAt l E h0 h1 F N ii (by first | omega | assumption | (intro k h; have := hz k h; omega))) (cwV 1 hts gX2_findLevel_X2_dangerAt rfl rfl rfl (by decide +kernel) ⟨Nat.le_of_ble_eq_true rfl, Nat.le_of_ble_eq_true rfl⟩) ⟨fb_R, va_recv hE.1 hP (ci := 2) (q0 := 0) rfl rfl, fun U hU hW => ⟨rfl, (by rw [hU]; exact hP), hE.warm hW⟩⟩ rfl rfl hl.1 rfl (lv_room (Nat.le_of_ble_eq_true rfl)) dX2_findLevel_14 ⟨by first | exact Nat.le_of_ble_eq_true rfl | (show _ ≤ 0; omega), by first | exact Nat.le_of_ble_eq_true rfl | (show _ ≤ 0; omega)⟩) hS (fun q _ h => h.elim) (fun q h => h.elim) (fun r14_1 u t H1 locs ht hvm hw hB hz1 hk1 hS => ?_)
        have hP := hP.ro hk1
        generalize H1 = H at hP hS ⊢
        subst hw
        refine lv_istore (lv' := [(4, .int (dngA (rw5 N ii))), (3, .int (nI ii)), (2, .int ((flA N ii).2)), (1, .int ((flA N ii).1)), (0, .ref h0)]) hx hb dX2_findLevel_17 hl (by decide) rfl (fun ls hl => ?_)
        refine lv_iload_n hx hb dX2_findLevel_19 rfl (lv_at hl 2 rfl) ?_
        refine lv_iload hx hb dX2_findLevel_20 (lv_at hl 0 rfl) ?_
        refine lv_iload_n hx hb dX2_findLevel_22 rfl (lv_at hl 3 rfl) ?_
        refine mz_min hx hb (hml.trans hl.1.symm) hown ml_23 ms_min mi mc_min (Nat.le_of_ble_eq_true rfl) (Nat.le_of_ble_eq_true rfl) (by first | exact Nat.le_of_ble_eq_true rfl | (show _ ≤ 0; omega)) (by first | exact Nat.le_of_ble_eq_true rfl | (show _ ≤ 0; omega)) dX2_findLevel_23 ?_
        refine mz_max hx hb (hml.trans hl.1.symm) hown ml_82 ms_max mi mc_max (Nat.le_of_ble_eq_true rfl) (Nat.le_of_ble_eq_true rfl) (by first | exact Nat.le_of_ble_eq_true rfl | (show _ ≤ 0; omega)) (by first | exact Nat.le_of_ble_eq_true rfl | (show _ ≤ 0; omega)) dX2_findLevel_26 ?_
        refine lv_istore_n (lv' := [(2, .int (mx ((flA N ii).2) (mn (dngA (rw5 N ii)) ((flA N ii).1)))), (4, .int (dngA (rw5 N ii))), (3, .int (nI ii)), (1, .int ((flA N ii).1)), (0, .ref h0)]) hx hb dX2_findLevel_29 rfl hl (by decide) rfl (fun ls hl => ?_)
        refine lv_iload_n hx hb dX2_findLevel_30 rfl (lv_at hl 3 rfl) ?_
        refine lv_iload hx hb dX2_findLevel_31 (lv_at hl 1 rfl) ?_
        refine mz_max hx hb (hml.trans hl.1.symm) hown ml_82 ms_max mi mc_max (Nat.le_of_ble_eq_true rfl) (Nat.le_of_ble_eq_true rfl) (by first | exact Nat.le_of_ble_eq_true rfl | (show _ ≤ 0; omega)) (by first | exact Nat.le_of_ble_eq_true rfl | (show _ ≤ 0; omega)) dX2_findLevel_33 ?_
        refine lv_istore_n (lv' := [(1, .int (mx ((flA N ii).1) (dngA (rw5 N ii)))), (2, .int (mx ((flA N ii).2) (mn (dngA (rw5 N ii)) ((flA N ii).1)))), (4, .int (dngA (rw5 N ii))), (3, .int (nI ii)), (0, .ref h0)]) hx hb dX2_findLevel_36 rfl hl (by decide) rfl (fun ls hl => ?_)
        refine mz_iinc (k := 3) (lv' := [(3, .int (nI (ii + 1))), (1, .int (mx ((flA N ii).1) (dngA (rw5 N ii)))), (2, .int (mx ((flA N ii).2) (mn (dngA (rw5 N ii)) ((flA N ii).1)))), (4, .int (dngA (rw5 N ii))), (0, .ref h0)]) hx hb ii 1 dX2_findLevel_37 hl rfl (by decide) rfl (fun ls hl => ?_)
        refine lv_goto (tgt := 6) hx hb dX2_findLevel_40 (by decide) ?_
        exact ih6 (ii + 1) (by omega) (by omega) _ _ _ hP hS (lv_sub hl [0, 2, 1, 4] rfl)
  exact KL6 (12 + 1 - 0) 0 (by omega) (by omega) _ _ _ hP hS (lv_sub hl [0, 1, 2, 3] rfl)
set_option maxHeartbeats 4000000 in
set_option maxRecDepth 100000 in
theorem kX2_findCore (l : Launch) (E : ev_T) (h0 : Nat) (h1 : Nat) (F : Nat → Int32) (N : Nat → Int32) (lv : Int32) : Met l yX2_findCore wsX2_findCore ({ frames := 3, cells := 0, slots := 0, locals := 71 } : Room) (va_Pc [.ref h0, .int lv] (pr_R E [(h0, .inr (2, [.ref h1, .int (F 1), .int (F 2), .int (F 3), .int (F 4), .int (F 5)])), (h1, .inl (E.2.1 0, 60, .inl N))])) (va_Qi (fun (r : Int32) (_ : Unit) => r = crA N lv 12) (fun _ _ => True) (fun _ : Nat => False)) 0 0 (fun _ : Nat => False) := by
  refine Met.ofW (cc := cX2_findCore) (maxL := 4) (ret := (some .int)) (by decide) rfl ?_
  intro p e s m args below meth c s₁ B hml hv
  obtain ⟨rfl, hP, hE⟩ := hv
  have hx := B.exec
  have hb := B.bytes
  have hr := B.returns
  have hts := atoms_spec (ws := wsX2_findCore) B.pre
  have hown : s.vm.findClass RX2 = some m.cls := findClass_of_methodNamed B.named
  have hlocks := B.notSynchronized
  refine mz_start (fun H locs hH hL => ?_)
  have hS : va_S (fun _ : Nat => False) s.heap H locs := by rw [hH, hL]; exact va_S.rf
  have hl := lv_entry ([.ref h0, .int lv]) (n := 4) (Nat.le_of_ble_eq_true rfl)
  rw [lg_entry_eq]
  generalize (lg_sl ([.ref h0, .int lv]) ++ List.replicate (4 - (lg_sl ([.ref h0, .int lv])).length) Slot.unset).toArray = ls at hl ⊢
  have hl : lv_has ls 4 [(0, .ref h0), (1, .int lv)] := hl
  have hP : va_P E.1 vwCl [(h0, .inr (2, [.ref h1, .int (F 1), .int (F 2), .int (F 3), .int (F 4), .int (F 5)])), (h1, .inl (E.2.1 0, 60, .inl N))] H := by rw [hH]; exact hP
  refine lv_iconst (v := 0) hx hb dX2_findCore_0 (by decide) ?_
  refine lv_istore_n (lv' := [(2, .int 0), (0, .ref h0), (1, .int lv)]) hx hb dX2_findCore_1 rfl hl (by decide) rfl (fun ls hl => ?_)
  refine lv_iconst (v := 0) hx hb dX2_findCore_2 (by decide) ?_
  refine lv_istore_n (lv' := [(3, .int 0), (2, .int 0), (0, .ref h0), (1, .int lv)]) hx hb dX2_findCore_3 rfl hl (by decide) rfl (fun ls hl => ?_)
  have KL4 : ∀ (n4 ii : Nat), ii ≤ 12 → 12 < n4 + ii → ∀ (H : Heap) (locs : List Loc) (ls : Array Slot), va_P E.1 vwCl [(h0, .inr (2, [.ref h1, .int (F 1), .int (F 2), .int (F 3), .int (F 4), .int (F 5)])), (h1, .inl (E.2.1 0, 60, .inl N))] H → va_S (fun _ : Nat => False) s.heap H locs → lv_has ls 4 [(3, .int (nI ii)), (2, .int (crA N lv ii)), (0, .ref h0), (1, .int lv)] → W p l e (headSpec wsX2_findCore ({ frames := 3, cells := 0, slots := 0, locals := 71 } : Room)).room s m [.ref h0, .int lv].toArray below meth c H locs 0 0 (MQ below (va_Qi (fun (r : Int32) (_ : Unit) => r = crA N lv 12) (fun _ _ => True) (fun _ : Nat => False)) [.ref h0, .int lv].toArray s 0 0 (fun _ : Nat => False)) (F0 m 4 ls []) := by
    intro n4
    induction n4 with
    | zero => intro ii h1 h2; exact absurd h2 (by omega)
    | succ n4 ih4 =>
      intro ii hi4 hn4 H locs ls hP hS hl
      refine lv_iload_n hx hb dX2_findCore_4 rfl (lv_at hl 0 rfl) ?_
      refine lv_bipush (v := 12) hx hb dX2_findCore_5 (by decide) ?_
      refine mz_geN hx hb ii 12 (tgt := 34) dX2_findCore_7 (by decide) (by omega) (by omega) (fun c_7 => ?_) (fun c_7 => ?_)
      · have hq99 : ii = 12 := by omega
        subst ii
        refine lv_iload_n hx hb dX2_findCore_34 rfl (lv_at hl 1 rfl) ?_
        exact W.iret (v := crA N lv 12) hx hb hr (fun t ht hW => ⟨⟨_, (), rfl, (by first | rfl), trivial⟩, hS.F ht⟩) hS.2.2 dX2_findCore_35
      · have KJ28 : ∀ (xx : Int32), xx = (crA N lv (ii + 1)) → ∀ (H : Heap) (locs : List Loc) (ls : Array Slot), va_P E.1 vwCl [(h0, .inr (2, [.ref h1, .int (F 1), .int (F 2), .int (F 3), .int (F 4), .int (F 5)])), (h1, .inl (E.2.1 0, 60, .inl N))] H → va_S (fun _ : Nat => False) s.heap H locs → lv_has ls 4 [(2, .int xx), (3, .int (nI ii)), (0, .ref h0), (1, .int lv)] → W p l e (headSpec wsX2_findCore ({ frames := 3, cells := 0, slots := 0, locals := 71 } : Room)).room s m [.ref h0, .int lv].toArray below meth c H locs 0 0 (MQ below (va_Qi (fun (r : Int32) (_ : Unit) => r = crA N lv 12) (fun _ _ => True) (fun _ : Nat => False)) [.ref h0, .int lv].toArray s 0 0 (fun _ : Nat => False)) (F0 m 28 ls []) := by
          intro xx exx H locs ls hP hS hl
          subst exx
          refine mz_iinc (k := 1) (lv' := [(3, .int (nI (ii + 1))), (2, .int (crA N lv (ii + 1))), (0, .ref h0), (1, .int lv)]) hx hb ii 1 dX2_findCore_28 hl rfl (by decide) rfl (fun ls hl => ?_)
          refine lv_goto (tgt := 4) hx hb dX2_findCore_31 (by decide) ?_
          exact ih4 (ii + 1) (by omega) (by omega) _ _ _ hP hS (lv_sub hl [0, 1, 2, 3] rfl)
        refine lv_aload_n hx hb dX2_findCore_10 rfl (lv_at hl 2 rfl) ?_
        refine lv_iload_n hx hb dX2_findCore_11 rfl (lv_at hl 0 rfl) ?_
        refine va_calli (va_runV (As := [.int (nI ii)]) (rest := []) ⟨hx, hb, hml, hown, hts⟩ (kX2_dangerAt l E h0 h1 F N ii (by first | omega | assumption | (intro k h; have := hz k h; omega))) (cwV 1 hts gX2_findCore_X2_dangerAt rfl rfl rfl (by decide +kernel) ⟨Nat.le_of_ble_eq_true rfl, Nat.le_of_ble_eq_true rfl⟩) ⟨fb_R, va_recv hE.1 hP (ci := 2) (q0 := 0) rfl rfl, fun U hU hW => ⟨rfl, (by rw [hU]; exact hP), hE.warm hW⟩⟩ rfl rfl hl.1 rfl (lv_room (Nat.le_of_ble_eq_true rfl)) dX2_findCore_12 ⟨by first | exact Nat.le_of_ble_eq_true rfl | (show _ ≤ 0; omega), by first | exact Nat.le_of_ble_eq_true rfl | (show _ ≤ 0; omega)⟩) hS (fun q _ h => h.elim) (fun q h => h.elim) (fun r12_0 u t H1 locs ht hvm hw hB hz1 hk1 hS => ?_)
        have hP := hP.ro hk1
        generalize H1 = H at hP hS ⊢
        subst hw
        refine va_calli (va_runS (As := [.int (dngA (rw5 N ii))]) (rest := []) ⟨hx, hb, hml, hown, hts⟩ (kX2_levelOfDanger l E (dngA (rw5 N ii))) (va_cwS 1 hts gX2_findCore_X2_levelOfDanger rfl rfl rfl (by decide +kernel) ⟨Nat.le_of_ble_eq_true rfl, Nat.le_of_ble_eq_true rfl⟩) ⟨fb_0, fun U hU hW => ⟨rfl, trivial⟩⟩ rfl rfl hl.1 rfl (lv_room (Nat.le_of_ble_eq_true rfl)) dX2_findCore_15 ⟨by first | exact Nat.le_of_ble_eq_true rfl | (show _ ≤ 0; omega), by first | exact Nat.le_of_ble_eq_true rfl | (show _ ≤ 0; omega)⟩) hS (fun q _ h => h.elim) (fun q h => h.elim) (fun r15_1 u t H1 locs ht hvm hw hB hz1 hk1 hS => ?_)
        have hP := hP.ro hk1
        generalize H1 = H at hP hS ⊢
        subst hw
        refine lv_iload_n hx hb dX2_findCore_18 rfl (lv_at hl 3 rfl) ?_
        refine mz_lt (tgt := 28) hx hb dX2_findCore_19 (by decide) (fun c_19 => ?_) (fun c_19 => ?_)
        · exact KJ28 (crA N lv ii) (by first | (simp only [crA, if_pos c_7, if_pos c_19]; done) | (try unfold crA; simp only [if_pos c_7, if_pos c_19]; done) | (try unfold crA; rfl) | rfl) _ _ _ hP hS (lv_sub hl [1, 0, 2, 3] rfl)
        · refine lv_iload_n hx hb dX2_findCore_22 rfl (lv_at hl 1 rfl) ?_
          refine lv_iconst (v := 1) hx hb dX2_findCore_23 (by decide) ?_
          refine lv_iload_n hx hb dX2_findCore_24 rfl (lv_at hl 0 rfl) ?_
          refine lv_ishl hx hb dX2_findCore_25 ?_
          refine lv_ior hx hb dX2_findCore_26 ?_
          refine lv_istore_n (lv' := [(2, .int ((crA N lv ii) ||| (1 <<< ((nI ii) &&& 31)))), (3, .int (nI ii)), (0, .ref h0), (1, .int lv)]) hx hb dX2_findCore_27 rfl hl (by decide) rfl (fun ls hl => ?_)
          exact KJ28 ((crA N lv ii) ||| (1 <<< ((nI ii) &&& 31))) (by first | (simp only [crA, if_pos c_7, if_neg c_19]; done) | (try unfold crA; simp only [if_pos c_7, if_neg c_19]; done) | (try unfold crA; rfl) | rfl) _ _ _ hP hS (lv_sub hl [0, 1, 2, 3] rfl)
  exact KL4 (12 + 1 - 0) 0 (by omega) (by omega) _ _ _ hP hS (lv_sub hl [0, 1, 2, 3] rfl)
set_option maxHeartbeats 4000000 in
set_option maxRecDepth 100000 in
theorem kX2_sumInCore (l : Launch) (E : ev_T) (h0 : Nat) (h1 : Nat) (F : Nat → Int32) (N : Nat → Int32) (co : Int32) (pb : Nat) (hq : pb < 4) : Met l yX2_sumInCore wsX2_sumInCore ({ frames := 2, cells := 0, slots := 0, locals := 46 } : Room) (va_Pc [.ref h0, .int co, .int (nI pb)] (pr_R E [(h0, .inr (2, [.ref h1, .int (F 1), .int (F 2), .int (F 3), .int (F 4), .int (F 5)])), (h1, .inl (E.2.1 0, 60, .inl N))])) (va_Qi (fun (r : Int32) (_ : Unit) => r = smA N co pb 12) (fun _ _ => True) (fun _ : Nat => False)) 0 0 (fun _ : Nat => False) := by
  refine Met.ofW (cc := cX2_sumInCore) (maxL := 5) (ret := (some .int)) (by decide) rfl ?_
  intro p e s m args below meth c s₁ B hml hv
  obtain ⟨rfl, hP, hE⟩ := hv
  have hx := B.exec
  have hb := B.bytes
  have hr := B.returns
  have hts := atoms_spec (ws := wsX2_sumInCore) B.pre
  have hown : s.vm.findClass RX2 = some m.cls := findClass_of_methodNamed B.named
  have hlocks := B.notSynchronized
  refine mz_start (fun H locs hH hL => ?_)
  have hS : va_S (fun _ : Nat => False) s.heap H locs := by rw [hH, hL]; exact va_S.rf
  have ini_X4 := hts (.initialized RX4) (by decide +kernel)
  have nl_94 : va_Nw (.methodLinkNest RX2 94 yX4_bit RX4) s := hE.2.1 _ (by decide +kernel)
  have st_yX4_bit := hts (.static yX4_bit) (by decide +kernel)
  have hl := lv_entry ([.ref h0, .int co, .int (nI pb)]) (n := 5) (Nat.le_of_ble_eq_true rfl)
  rw [lg_entry_eq]
  generalize (lg_sl ([.ref h0, .int co, .int (nI pb)]) ++ List.replicate (5 - (lg_sl ([.ref h0, .int co, .int (nI pb)])).length) Slot.unset).toArray = ls at hl ⊢
  have hl : lv_has ls 5 [(0, .ref h0), (1, .int co), (2, .int (nI pb))] := hl
  have hP : va_P E.1 vwCl [(h0, .inr (2, [.ref h1, .int (F 1), .int (F 2), .int (F 3), .int (F 4), .int (F 5)])), (h1, .inl (E.2.1 0, 60, .inl N))] H := by rw [hH]; exact hP
  refine lv_iconst (v := 0) hx hb dX2_sumInCore_0 (by decide) ?_
  refine lv_istore_n (lv' := [(3, .int 0), (0, .ref h0), (1, .int co), (2, .int (nI pb))]) hx hb dX2_sumInCore_1 rfl hl (by decide) rfl (fun ls hl => ?_)
  refine lv_iconst (v := 0) hx hb dX2_sumInCore_2 (by decide) ?_
  refine lv_istore (lv' := [(4, .int 0), (3, .int 0), (0, .ref h0), (1, .int co), (2, .int (nI pb))]) hx hb dX2_sumInCore_3 hl (by decide) rfl (fun ls hl => ?_)
  have KL5 : ∀ (n5 ii : Nat), ii ≤ 12 → 12 < n5 + ii → ∀ (H : Heap) (locs : List Loc) (ls : Array Slot), va_P E.1 vwCl [(h0, .inr (2, [.ref h1, .int (F 1), .int (F 2), .int (F 3), .int (F 4), .int (F 5)])), (h1, .inl (E.2.1 0, 60, .inl N))] H → va_S (fun _ : Nat => False) s.heap H locs → lv_has ls 5 [(4, .int (nI ii)), (3, .int (smA N co pb ii)), (0, .ref h0), (1, .int co), (2, .int (nI pb))] → W p l e (headSpec wsX2_sumInCore ({ frames := 2, cells := 0, slots := 0, locals := 46 } : Room)).room s m [.ref h0, .int co, .int (nI pb)].toArray below meth c H locs 0 0 (MQ below (va_Qi (fun (r : Int32) (_ : Unit) => r = smA N co pb 12) (fun _ _ => True) (fun _ : Nat => False)) [.ref h0, .int co, .int (nI pb)].toArray s 0 0 (fun _ : Nat => False)) (F0 m 5 ls []) := by
    intro n5
    induction n5 with
    | zero => intro ii h1 h2; exact absurd h2 (by omega)
    | succ n5 ih5 =>
      intro ii hi5 hn5 H locs ls hP hS hl
      refine lv_iload hx hb dX2_sumInCore_5 (lv_at hl 0 rfl) ?_
      refine lv_bipush (v := 12) hx hb dX2_sumInCore_7 (by decide) ?_
      refine mz_geN hx hb ii 12 (tgt := 35) dX2_sumInCore_9 (by decide) (by omega) (by omega) (fun c_9 => ?_) (fun c_9 => ?_)
      · have hq99 : ii = 12 := by omega
        subst ii
        refine lv_iload_n hx hb dX2_sumInCore_35 rfl (lv_at hl 1 rfl) ?_
        exact W.iret (v := smA N co pb 12) hx hb hr (fun t ht hW => ⟨⟨_, (), rfl, (by first | rfl), trivial⟩, hS.F ht⟩) hS.2.2 dX2_sumInCore_36
      · refine lv_iload_n hx hb dX2_sumInCore_12 rfl (lv_at hl 1 rfl) ?_
        refine lv_iload_n hx hb dX2_sumInCore_13 rfl (lv_at hl 3 rfl) ?_
        refine lv_iload hx hb dX2_sumInCore_14 (lv_at hl 0 rfl) ?_
        refine va_calli (va_runSN (As := [.int co, .int (nI ii)]) (rest := [.int (smA N co pb ii)]) ⟨hx, hb, hml, hown, hts⟩ (kX4_bit l E co (nI ii)) ⟨(va_cnB 2 hts gX2_sumInCore_X4_bit_n94 rfl rfl rfl nl_94 ini_X4 (by decide +kernel) ⟨Nat.le_of_ble_eq_true rfl, Nat.le_of_ble_eq_true rfl⟩), st_yX4_bit, trivial⟩ ⟨fb_0, fun U hU hW => ⟨rfl, trivial⟩⟩ rfl rfl hl.1 rfl (lv_room (Nat.le_of_ble_eq_true rfl)) dX2_sumInCore_16 ⟨by first | exact Nat.le_of_ble_eq_true rfl | (show _ ≤ 0; omega), by first | exact Nat.le_of_ble_eq_true rfl | (show _ ≤ 0; omega)⟩) hS (fun q _ h => h.elim) (fun q h => h.elim) (fun r16_0 u t H1 locs ht hvm hw hB hz1 hk1 hS => ?_)
        have hP := hP.ro hk1
        generalize H1 = H at hP hS ⊢
        subst hw
        refine lv_aload_n hx hb dX2_sumInCore_19 rfl (lv_at hl 2 rfl) ?_
        refine lv_iload hx hb dX2_sumInCore_20 (lv_at hl 0 rfl) ?_
        refine lv_iload_n hx hb dX2_sumInCore_22 rfl (lv_at hl 4 rfl) ?_
        refine va_calli (va_runV (As := [.int (nI ii), .int (nI pb)]) (rest := [.int (bitF co (nI ii)), .int (smA N co pb ii)]) ⟨hx, hb, hml, hown, hts⟩ (kX2_problemAt l E h0 h1 F N ii pb (by first | omega | assumption | (intro k h; have := hz k h; omega)) (by first | omega | assumption | (intro k h; have := hz k h; omega))) (cwV 2 hts gX2_sumInCore_X2_problemAt rfl rfl rfl (by decide +kernel) ⟨Nat.le_of_ble_eq_true rfl, Nat.le_of_ble_eq_true rfl⟩) ⟨fb_R, va_recv hE.1 hP (ci := 2) (q0 := 0) rfl rfl, fun U hU hW => ⟨rfl, (by rw [hU]; exact hP), hE.warm hW⟩⟩ rfl rfl hl.1 rfl (lv_room (Nat.le_of_ble_eq_true rfl)) dX2_sumInCore_23 ⟨by first | exact Nat.le_of_ble_eq_true rfl | (show _ ≤ 0; omega), by first | exact Nat.le_of_ble_eq_true rfl | (show _ ≤ 0; omega)⟩) hS (fun q _ h => h.elim) (fun q h => h.elim) (fun r23_1 u t H1 locs ht hvm hw hB hz1 hk1 hS => ?_)
        have hP := hP.ro hk1
        generalize H1 = H at hP hS ⊢
        subst hw
        refine lv_imul hx hb dX2_sumInCore_26 ?_
        refine lv_iadd hx hb dX2_sumInCore_27 ?_
        refine lv_istore_n (lv' := [(3, .int ((smA N co pb ii) + ((bitF co (nI ii)) * (prR (rw5 N ii) pb)))), (4, .int (nI ii)), (0, .ref h0), (1, .int co), (2, .int (nI pb))]) hx hb dX2_sumInCore_28 rfl hl (by decide) rfl (fun ls hl => ?_)
        refine mz_iinc (k := 1) (lv' := [(4, .int (nI (ii + 1))), (3, .int ((smA N co pb ii) + ((bitF co (nI ii)) * (prR (rw5 N ii) pb)))), (0, .ref h0), (1, .int co), (2, .int (nI pb))]) hx hb ii 1 dX2_sumInCore_29 hl rfl (by decide) rfl (fun ls hl => ?_)
        refine lv_goto (tgt := 5) hx hb dX2_sumInCore_32 (by decide) ?_
        exact ih5 (ii + 1) (by omega) (by omega) _ _ _ hP hS (lv_sub hl [0, 1, 2, 3, 4] rfl)
  exact KL5 (12 + 1 - 0) 0 (by omega) (by omega) _ _ _ hP hS (lv_sub hl [0, 1, 2, 3, 4] rfl)
set_option maxHeartbeats 4000000 in
set_option maxRecDepth 100000 in
theorem kX2_findProblem (l : Launch) (E : ev_T) (h0 : Nat) (h1 : Nat) (F : Nat → Int32) (N : Nat → Int32) (co : Int32) : Met l yX2_findProblem wsX2_findProblem ({ frames := 3, cells := 0, slots := 0, locals := 70 } : Room) (va_Pc [.ref h0, .int co] (pr_R E [(h0, .inr (2, [.ref h1, .int (F 1), .int (F 2), .int (F 3), .int (F 4), .int (F 5)])), (h1, .inl (E.2.1 0, 60, .inl N))])) (va_Qi (fun (r : Int32) (_ : Unit) => r = (fpA N co 4).1) (fun _ _ => True) (fun _ : Nat => False)) 0 0 (fun _ : Nat => False) := by
  refine Met.ofW (cc := cX2_findProblem) (maxL := 6) (ret := (some .int)) (by decide) rfl ?_
  intro p e s m args below meth c s₁ B hml hv
  obtain ⟨rfl, hP, hE⟩ := hv
  have hx := B.exec
  have hb := B.bytes
  have hr := B.returns
  have hts := atoms_spec (ws := wsX2_findProblem) B.pre
  have hown : s.vm.findClass RX2 = some m.cls := findClass_of_methodNamed B.named
  have hlocks := B.notSynchronized
  refine mz_start (fun H locs hH hL => ?_)
  have hS : va_S (fun _ : Nat => False) s.heap H locs := by rw [hH, hL]; exact va_S.rf
  have hl := lv_entry ([.ref h0, .int co]) (n := 6) (Nat.le_of_ble_eq_true rfl)
  rw [lg_entry_eq]
  generalize (lg_sl ([.ref h0, .int co]) ++ List.replicate (6 - (lg_sl ([.ref h0, .int co])).length) Slot.unset).toArray = ls at hl ⊢
  have hl : lv_has ls 6 [(0, .ref h0), (1, .int co)] := hl
  have hP : va_P E.1 vwCl [(h0, .inr (2, [.ref h1, .int (F 1), .int (F 2), .int (F 3), .int (F 4), .int (F 5)])), (h1, .inl (E.2.1 0, 60, .inl N))] H := by rw [hH]; exact hP
  refine lv_iconst (v := 0) hx hb dX2_findProblem_0 (by decide) ?_
  refine lv_istore_n (lv' := [(2, .int 0), (0, .ref h0), (1, .int co)]) hx hb dX2_findProblem_1 rfl hl (by decide) rfl (fun ls hl => ?_)
  refine lv_iconst (v := (-1)) hx hb dX2_findProblem_2 (by decide) ?_
  refine lv_istore_n (lv' := [(3, .int (-1)), (2, .int 0), (0, .ref h0), (1, .int co)]) hx hb dX2_findProblem_3 rfl hl (by decide) rfl (fun ls hl => ?_)
  refine lv_iconst (v := 0) hx hb dX2_findProblem_4 (by decide) ?_
  refine lv_istore (lv' := [(4, .int 0), (3, .int (-1)), (2, .int 0), (0, .ref h0), (1, .int co)]) hx hb dX2_findProblem_5 hl (by decide) rfl (fun ls hl => ?_)
  have KL7 : ∀ (n7 ii : Nat), ii ≤ 4 → 4 < n7 + ii → ∀ (H : Heap) (locs : List Loc) (ls : Array Slot), va_P E.1 vwCl [(h0, .inr (2, [.ref h1, .int (F 1), .int (F 2), .int (F 3), .int (F 4), .int (F 5)])), (h1, .inl (E.2.1 0, 60, .inl N))] H → va_S (fun _ : Nat => False) s.heap H locs → lv_has ls 6 [(4, .int (nI ii)), (3, .int ((fpA N co ii).2)), (2, .int ((fpA N co ii).1)), (0, .ref h0), (1, .int co)] → W p l e (headSpec wsX2_findProblem ({ frames := 3, cells := 0, slots := 0, locals := 70 } : Room)).room s m [.ref h0, .int co].toArray below meth c H locs 0 0 (MQ below (va_Qi (fun (r : Int32) (_ : Unit) => r = (fpA N co 4).1) (fun _ _ => True) (fun _ : Nat => False)) [.ref h0, .int co].toArray s 0 0 (fun _ : Nat => False)) (F0 m 7 ls []) := by
    intro n7
    induction n7 with
    | zero => intro ii h1 h2; exact absurd h2 (by omega)
    | succ n7 ih7 =>
      intro ii hi7 hn7 H locs ls hP hS hl
      refine lv_iload hx hb dX2_findProblem_7 (lv_at hl 0 rfl) ?_
      refine lv_iconst (v := 4) hx hb dX2_findProblem_9 (by decide) ?_
      refine mz_geN hx hb ii 4 (tgt := 40) dX2_findProblem_10 (by decide) (by omega) (by omega) (fun c_10 => ?_) (fun c_10 => ?_)
      · have hq99 : ii = 4 := by omega
        subst ii
        refine lv_iload_n hx hb dX2_findProblem_40 rfl (lv_at hl 2 rfl) ?_
        exact W.iret (v := (fpA N co 4).1) hx hb hr (fun t ht hW => ⟨⟨_, (), rfl, (by first | rfl), trivial⟩, hS.F ht⟩) hS.2.2 dX2_findProblem_41
      · have KJ34 : ∀ (xb : Int32), xb = ((fpA N co (ii + 1)).1) → ∀ (xg : Int32), xg = ((fpA N co (ii + 1)).2) → ∀ (H : Heap) (locs : List Loc) (ls : Array Slot), va_P E.1 vwCl [(h0, .inr (2, [.ref h1, .int (F 1), .int (F 2), .int (F 3), .int (F 4), .int (F 5)])), (h1, .inl (E.2.1 0, 60, .inl N))] H → va_S (fun _ : Nat => False) s.heap H locs → lv_has ls 6 [(2, .int xb), (3, .int xg), (4, .int (nI ii)), (0, .ref h0), (1, .int co)] → W p l e (headSpec wsX2_findProblem ({ frames := 3, cells := 0, slots := 0, locals := 70 } : Room)).room s m [.ref h0, .int co].toArray below meth c H locs 0 0 (MQ below (va_Qi (fun (r : Int32) (_ : Unit) => r = (fpA N co 4).1) (fun _ _ => True) (fun _ : Nat => False)) [.ref h0, .int co].toArray s 0 0 (fun _ : Nat => False)) (F0 m 34 ls []) := by
          intro xb exb xg exg H locs ls hP hS hl
          subst exb
          subst exg
          refine mz_iinc (k := 2) (lv' := [(4, .int (nI (ii + 1))), (2, .int ((fpA N co (ii + 1)).1)), (3, .int ((fpA N co (ii + 1)).2)), (0, .ref h0), (1, .int co)]) hx hb ii 1 dX2_findProblem_34 hl rfl (by decide) rfl (fun ls hl => ?_)
          refine lv_goto (tgt := 7) hx hb dX2_findProblem_37 (by decide) ?_
          exact ih7 (ii + 1) (by omega) (by omega) _ _ _ hP hS (lv_sub hl [0, 2, 1, 3, 4] rfl)
        refine lv_aload_n hx hb dX2_findProblem_13 rfl (lv_at hl 3 rfl) ?_
        refine lv_iload_n hx hb dX2_findProblem_14 rfl (lv_at hl 4 rfl) ?_
        refine lv_iload hx hb dX2_findProblem_15 (lv_at hl 0 rfl) ?_
        refine va_calli (va_runV (As := [.int co, .int (nI ii)]) (rest := []) ⟨hx, hb, hml, hown, hts⟩ (kX2_sumInCore l E h0 h1 F N co ii (by first | omega | assumption | (intro k h; have := hz k h; omega))) (cwV 2 hts gX2_findProblem_X2_sumInCore rfl rfl rfl (by decide +kernel) ⟨Nat.le_of_ble_eq_true rfl, Nat.le_of_ble_eq_true rfl⟩) ⟨fb_R, va_recv hE.1 hP (ci := 2) (q0 := 0) rfl rfl, fun U hU hW => ⟨rfl, (by rw [hU]; exact hP), hE.warm hW⟩⟩ rfl rfl hl.1 rfl (lv_room (Nat.le_of_ble_eq_true rfl)) dX2_findProblem_17 ⟨by first | exact Nat.le_of_ble_eq_true rfl | (show _ ≤ 0; omega), by first | exact Nat.le_of_ble_eq_true rfl | (show _ ≤ 0; omega)⟩) hS (fun q _ h => h.elim) (fun q h => h.elim) (fun r17_0 u t H1 locs ht hvm hw hB hz1 hk1 hS => ?_)
        have hP := hP.ro hk1
        generalize H1 = H at hP hS ⊢
        subst hw
        refine lv_istore (lv' := [(5, .int (smA N co ii 12)), (4, .int (nI ii)), (3, .int ((fpA N co ii).2)), (2, .int ((fpA N co ii).1)), (0, .ref h0), (1, .int co)]) hx hb dX2_findProblem_20 hl (by decide) rfl (fun ls hl => ?_)
        refine lv_iload hx hb dX2_findProblem_22 (lv_at hl 0 rfl) ?_
        refine lv_iload_n hx hb dX2_findProblem_24 rfl (lv_at hl 2 rfl) ?_
        refine mz_le (tgt := 34) hx hb dX2_findProblem_25 (by decide) (fun c_25 => ?_) (fun c_25 => ?_)
        · exact KJ34 ((fpA N co ii).1) (by first | (simp only [fpA, if_pos c_10, if_neg c_25]; done) | (try unfold fpA; simp only [if_pos c_10, if_neg c_25]; done) | (try unfold fpA; rfl) | rfl) ((fpA N co ii).2) (by first | (simp only [fpA, if_pos c_10, if_neg c_25]; done) | (try unfold fpA; simp only [if_pos c_10, if_neg c_25]; done) | (try unfold fpA; rfl) | rfl) _ _ _ hP hS (lv_sub hl [3, 2, 1, 4, 5] rfl)
        · refine lv_iload hx hb dX2_findProblem_28 (lv_at hl 1 rfl) ?_
          refine lv_istore_n (lv' := [(2, .int (nI ii)), (5, .int (smA N co ii 12)), (4, .int (nI ii)), (3, .int ((fpA N co ii).2)), (0, .ref h0), (1, .int co)]) hx hb dX2_findProblem_30 rfl hl (by decide) rfl (fun ls hl => ?_)
          refine lv_iload hx hb dX2_findProblem_31 (lv_at hl 1 rfl) ?_
          refine lv_istore_n (lv' := [(3, .int (smA N co ii 12)), (2, .int (nI ii)), (5, .int (smA N co ii 12)), (4, .int (nI ii)), (0, .ref h0), (1, .int co)]) hx hb dX2_findProblem_33 rfl hl (by decide) rfl (fun ls hl => ?_)
          exact KJ34 (nI ii) (by first | (simp only [fpA, if_pos c_10, if_pos c_25]; done) | (try unfold fpA; simp only [if_pos c_10, if_pos c_25]; done) | (try unfold fpA; rfl) | rfl) (smA N co ii 12) (by first | (simp only [fpA, if_pos c_10, if_pos c_25]; done) | (try unfold fpA; simp only [if_pos c_10, if_pos c_25]; done) | (try unfold fpA; rfl) | rfl) _ _ _ hP hS (lv_sub hl [1, 0, 3, 4, 5] rfl)
  exact KL7 (4 + 1 - 0) 0 (by omega) (by omega) _ _ _ hP hS (lv_sub hl [0, 1, 2, 3, 4] rfl)
