/-! the archive, the sightings, the route -/
def nF (z : Nat → Nat) : Nat → Int32 := fun k => nI (z k)
theorem nF_upd (z : Nat → Nat) (k x : Nat) : upd (nF z) k (nI x) = nF (va_up z k x) := by
  funext j
  unfold nF
  by_cases h : j = k
  · subst h; simp [upd, va_up]
  · simp [upd, va_up, h]
def tellsF (zs : Nat → Nat) (dd rr : Int32) : Int32 := if dd < 0 then 0 else if 60 < dd then 0 else if rr < 0 then 0 else if rr < nI (zs dd.toNatClampNeg) then 1 else 0
def tellsN (zs : Nat → Nat) (dn rn : Nat) : Int32 := if rn < zs dn then 1 else 0
theorem tells_nat {zs : Nat → Nat} {dn rn : Nat} (h : dn ≤ 60) (hr : rn < 2147483648) (hz : zs dn < 2147483648) : tellsF zs (nI dn) (nI rn) = tellsN zs dn rn := by
  have h1 : ¬ nI dn < 0 := nI_pos (by omega)
  have h2 : ¬ (60 : Int32) < nI dn := fun q => absurd ((nI_ltI (a := 60) (by decide) (by omega)).mp q) (by omega)
  have h3 : ¬ nI rn < 0 := nI_pos hr
  simp only [tellsF, tellsN, if_neg h1, if_neg h2, if_neg h3, nI_clamp (show dn < 2 ^ 31 by omega), nI_ltI hr hz]
theorem b01 {x : Int32} (h : x = 0 ∨ x = 1) : narrow .boolean (.int x) = .int x := by rcases h with rfl | rfl <;> rfl
theorem if01 {c : Prop} [Decidable c] {a b : Int32} (ha : a = 0 ∨ a = 1) (hb : b = 0 ∨ b = 1) : (if c then a else b) = 0 ∨ (if c then a else b) = 1 := by split <;> assumption
theorem tellsF_01 (zs : Nat → Nat) (dd rr : Int32) : tellsF zs dd rr = 0 ∨ tellsF zs dd rr = 1 := if01 (Or.inl rfl) (if01 (Or.inl rfl) (if01 (Or.inl rfl) (if01 (Or.inr rfl) (Or.inl rfl))))
theorem tellsF_b (zs : Nat → Nat) (dd rr : Int32) : narrow .boolean (.int (tellsF zs dd rr)) = .int (tellsF zs dd rr) := b01 (tellsF_01 zs dd rr)
def fullF (c b : Nat) : Int32 := if c < b then 0 else 1
def ltA : Nat → Nat
  | 3 => 4
  | 4 => 25
  | 5 => 80
  | _ => 0
def gtA : Nat → Nat
  | 1 => 1
  | 2 => 9
  | 3 => 40
  | 4 => 120
  | _ => 2147483647
def rkS (rk st : Int32) : Int32 := if st < 40 then (if st < 35 then (if st < 30 then rk / 8 else rk / 4) else rk / 2) else rk
def rkC (lv co sc : Int32) : Int32 := if bitF co sc = 0 then (100 <<< (lv &&& 31)) / 4 else 100 <<< (lv &&& 31)
def rkF (lv co sc st : Int32) : Int32 := rkS (rkC lv co sc) st
def wsF (lv co : Int32) (A B : Nat → Int32) : Nat → Int32 × Int32
  | 0 => (-1, 0)
  | k + 1 => if (wsF lv co A B k).1 < 0 then (nI k, rkF lv co (A k) (B k)) else if (wsF lv co A B k).2 < rkF lv co (A k) (B k) then (nI k, rkF lv co (A k) (B k)) else wsF lv co A B k
set_option maxHeartbeats 4000000 in
set_option maxRecDepth 100000 in
theorem kX0_isFull (l : Launch) (E : ev_T) (d0 : Nat) (d1 : Nat) (d2 : Nat) (d3 : Nat) (d4 : Nat) (D1 : Nat → Int32) (P1 : Nat → Int32) (Q1 : Nat → Int32) (V1 : Nat → Int32) (cn : Nat) (hc : cn ≤ 200) : Met l yX0_isFull wsX0_isFull ({ frames := 0, cells := 0, slots := 0, locals := 0 } : Room) (va_Pc [.ref d0] (pr_R E [(d0, .inr (0, [.ref d1, .ref d2, .ref d3, .ref d4, .int (nI cn)])), (d1, .inl (E.2.1 0, 200, .inl D1)), (d2, .inl (E.2.1 0, 200, .inl P1)), (d3, .inl (E.2.1 0, 200, .inl Q1)), (d4, .inl (E.2.1 0, 366, .inl V1))])) (va_Qi (fun (r : Int32) (_ : Unit) => r = fullF cn 200) (fun _ _ => True) (fun _ : Nat => False)) 0 0 (fun _ : Nat => False) := by
  refine Met.ofW (cc := cX0_isFull) (maxL := 1) (ret := (some .boolean)) (by decide) rfl ?_
  intro p e s m args below meth c s₁ B hml hv
  obtain ⟨rfl, hP, hE⟩ := hv
  have hx := B.exec
  have hb := B.bytes
  have hr := B.returns
  have hts := atoms_spec (ws := wsX0_isFull) B.pre
  have hown : s.vm.findClass RX0 = some m.cls := findClass_of_methodNamed B.named
  have hlocks := B.notSynchronized
  refine mz_start (fun H locs hH hL => ?_)
  have hS : va_S (fun _ : Nat => False) s.heap H locs := by rw [hH, hL]; exact va_S.rf
  have f_24 := hts (.fieldLink RX0 24 "AvalancheDesk$Avalanches" "count" "I") (by decide +kernel)
  have inX0 : ∀ w ∈ wsX00, w ∈ wsX0_isFull := by decide +kernel
  have hl := lv_entry ([.ref d0]) (n := 1) (Nat.le_of_ble_eq_true rfl)
  rw [lg_entry_eq]
  generalize (lg_sl ([.ref d0]) ++ List.replicate (1 - (lg_sl ([.ref d0])).length) Slot.unset).toArray = ls at hl ⊢
  have hl : lv_has ls 1 [(0, .ref d0)] := hl
  have hP : va_P E.1 vwCl [(d0, .inr (0, [.ref d1, .ref d2, .ref d3, .ref d4, .int (nI cn)])), (d1, .inl (E.2.1 0, 200, .inl D1)), (d2, .inl (E.2.1 0, 200, .inl P1)), (d3, .inl (E.2.1 0, 200, .inl Q1)), (d4, .inl (E.2.1 0, 366, .inl V1))] H := by rw [hH]; exact hP
  refine lv_aload_n hx hb dX0_isFull_0 rfl (lv_at hl 0 rfl) ?_
  refine va_get (D := E.1) (ci := 0) (v := .int (nI cn)) (C := RX0) (T := TX0) (N := 5) hx hb hts inX0 hown hE.1 hP 0 rfl rfl 4 (by decide) f_24 (fun _ h9 => h9) rfl dX0_isFull_1 ?_
  refine lv_sipush (v := 200) hx hb dX0_isFull_4 (by decide) ?_
  refine mz_ltN hx hb cn 200 (tgt := 14) dX0_isFull_7 (by decide) (by omega) (by omega) (fun c_7 => ?_) (fun c_7 => ?_)
  · refine lv_iconst (v := 0) hx hb dX0_isFull_14 (by decide) ?_
    exact W.zret (v := 0) hx hb hr rfl (fun t ht hW => ⟨⟨_, (), rfl, (by first | (simp only [fullF, if_pos c_7]; done) | (try unfold fullF; simp only [if_pos c_7]; done) | (try unfold fullF; rfl) | rfl), trivial⟩, hS.F ht⟩) hS.2.2 dX0_isFull_15
  · refine lv_iconst (v := 1) hx hb dX0_isFull_10 (by decide) ?_
    refine lv_goto (tgt := 15) hx hb dX0_isFull_11 (by decide) ?_
    exact W.zret (v := 1) hx hb hr rfl (fun t ht hW => ⟨⟨_, (), rfl, (by first | (simp only [fullF, if_neg (Nat.not_lt.mpr c_7)]; done) | (try unfold fullF; simp only [if_neg (Nat.not_lt.mpr c_7)]; done) | (try unfold fullF; rfl) | rfl), trivial⟩, hS.F ht⟩) hS.2.2 dX0_isFull_15
set_option maxHeartbeats 4000000 in
set_option maxRecDepth 100000 in
theorem kX0_note (l : Launch) (E : ev_T) (d0 : Nat) (d1 : Nat) (d2 : Nat) (d3 : Nat) (d4 : Nat) (D1 : Nat → Int32) (P1 : Nat → Int32) (Q1 : Nat → Int32) (V1 : Nat → Int32) (cn : Nat) (dy : Nat) (rg : Nat) (sc : Nat) (zz : Nat) (sz : Nat) (hc : cn < 200) (h1 : dy ≤ 60) (h2 : rg < 6) : Met l yX0_note wsX0_note ({ frames := 0, cells := 0, slots := 0, locals := 0 } : Room) (va_Pc [.ref d0, .int (nI dy), .int (nI rg), .int (nI sc), .int (nI zz)] (pr_W E [(d0, .inr (0, [.ref d1, .ref d2, .ref d3, .ref d4, .int (nI cn)])), (d1, .inl (E.2.1 0, 200, .inl D1)), (d2, .inl (E.2.1 0, 200, .inl P1)), (d3, .inl (E.2.1 0, 200, .inl Q1)), (d4, .inl (E.2.1 0, 366, .inl V1))] sz)) (va_Qv (fun (_ : Unit) => True) (fun _ t => va_P E.1 vwCl [(d0, .inr (0, [.ref d1, .ref d2, .ref d3, .ref d4, .int (nI (cn + 1))])), (d1, .inl (E.2.1 0, 200, .inl (upd D1 cn (nI dy)))), (d2, .inl (E.2.1 0, 200, .inl (upd P1 cn (nI rg)))), (d3, .inl (E.2.1 0, 200, .inl (upd Q1 cn (nI sc)))), (d4, .inl (E.2.1 0, 366, .inl (upd V1 (dy * 6 + rg) (V1 (dy * 6 + rg) + nI (zz * zz)))))] t.heap) (va_A [(d0, .inr (0, [.ref d1, .ref d2, .ref d3, .ref d4, .int (nI cn)])), (d1, .inl (E.2.1 0, 200, .inl D1)), (d2, .inl (E.2.1 0, 200, .inl P1)), (d3, .inl (E.2.1 0, 200, .inl Q1)), (d4, .inl (E.2.1 0, 366, .inl V1))] sz)) 0 0 (va_A [(d0, .inr (0, [.ref d1, .ref d2, .ref d3, .ref d4, .int (nI cn)])), (d1, .inl (E.2.1 0, 200, .inl D1)), (d2, .inl (E.2.1 0, 200, .inl P1)), (d3, .inl (E.2.1 0, 200, .inl Q1)), (d4, .inl (E.2.1 0, 366, .inl V1))] sz) := by
  refine Met.ofW (cc := cX0_note) (maxL := 5) (ret := none) (by decide) rfl ?_
  intro p e s m args below meth c s₁ B hml hv
  obtain ⟨rfl, hsz, hP, hD0, hE⟩ := hv
  have hx := B.exec
  have hb := B.bytes
  have hr := B.returns
  have hts := atoms_spec (ws := wsX0_note) B.pre
  have hown : s.vm.findClass RX0 = some m.cls := findClass_of_methodNamed B.named
  have hlocks := B.notSynchronized
  subst hsz
  have hD : va_D (va_A [(d0, .inr (0, [.ref d1, .ref d2, .ref d3, .ref d4, .int (nI cn)])), (d1, .inl (E.2.1 0, 200, .inl D1)), (d2, .inl (E.2.1 0, 200, .inl P1)), (d3, .inl (E.2.1 0, 200, .inl Q1)), (d4, .inl (E.2.1 0, 366, .inl V1))] s.heap.size) [(d0, .inr (0, [.ref d1, .ref d2, .ref d3, .ref d4, .int (nI cn)])), (d1, .inl (E.2.1 0, 200, .inl D1)), (d2, .inl (E.2.1 0, 200, .inl P1)), (d3, .inl (E.2.1 0, 200, .inl Q1)), (d4, .inl (E.2.1 0, 366, .inl V1))] := hD0.self
  have hA : ∀ q : Nat, s.heap.size ≤ q → (va_A [(d0, .inr (0, [.ref d1, .ref d2, .ref d3, .ref d4, .int (nI cn)])), (d1, .inl (E.2.1 0, 200, .inl D1)), (d2, .inl (E.2.1 0, 200, .inl P1)), (d3, .inl (E.2.1 0, 200, .inl Q1)), (d4, .inl (E.2.1 0, 366, .inl V1))] s.heap.size) q := fun q h => Or.inr h
  refine mz_start (fun H locs hH hL => ?_)
  have hS : va_S (va_A [(d0, .inr (0, [.ref d1, .ref d2, .ref d3, .ref d4, .int (nI cn)])), (d1, .inl (E.2.1 0, 200, .inl D1)), (d2, .inl (E.2.1 0, 200, .inl P1)), (d3, .inl (E.2.1 0, 200, .inl Q1)), (d4, .inl (E.2.1 0, 366, .inl V1))] s.heap.size) s.heap H locs := by rw [hH, hL]; exact va_S.rf
  have f_11 := hts (.fieldLink RX0 11 "AvalancheDesk$Avalanches" "days" "[I") (by decide +kernel)
  have inX0 : ∀ w ∈ wsX00, w ∈ wsX0_note := by decide +kernel
  have f_24 := hts (.fieldLink RX0 24 "AvalancheDesk$Avalanches" "count" "I") (by decide +kernel)
  have f_15 := hts (.fieldLink RX0 15 "AvalancheDesk$Avalanches" "places" "[I") (by decide +kernel)
  have f_18 := hts (.fieldLink RX0 18 "AvalancheDesk$Avalanches" "sectors" "[I") (by decide +kernel)
  have f_21 := hts (.fieldLink RX0 21 "AvalancheDesk$Avalanches" "activities" "[I") (by decide +kernel)
  have hl := lv_entry ([.ref d0, .int (nI dy), .int (nI rg), .int (nI sc), .int (nI zz)]) (n := 5) (Nat.le_of_ble_eq_true rfl)
  rw [lg_entry_eq]
  generalize (lg_sl ([.ref d0, .int (nI dy), .int (nI rg), .int (nI sc), .int (nI zz)]) ++ List.replicate (5 - (lg_sl ([.ref d0, .int (nI dy), .int (nI rg), .int (nI sc), .int (nI zz)])).length) Slot.unset).toArray = ls at hl ⊢
  have hl : lv_has ls 5 [(0, .ref d0), (1, .int (nI dy)), (2, .int (nI rg)), (3, .int (nI sc)), (4, .int (nI zz))] := hl
  have hP : va_P E.1 vwCl [(d0, .inr (0, [.ref d1, .ref d2, .ref d3, .ref d4, .int (nI cn)])), (d1, .inl (E.2.1 0, 200, .inl D1)), (d2, .inl (E.2.1 0, 200, .inl P1)), (d3, .inl (E.2.1 0, 200, .inl Q1)), (d4, .inl (E.2.1 0, 366, .inl V1))] H := by rw [hH]; exact hP
  refine lv_aload_n hx hb dX0_note_0 rfl (lv_at hl 0 rfl) ?_
  refine va_get (D := E.1) (ci := 0) (v := .ref d1) (C := RX0) (T := TX0) (N := 5) hx hb hts inX0 hown hE.1 hP 0 rfl rfl 0 (by decide) f_11 (fun _ h9 => h9) rfl dX0_note_1 ?_
  refine lv_aload_n hx hb dX0_note_4 rfl (lv_at hl 0 rfl) ?_
  refine va_get (D := E.1) (ci := 0) (v := .int (nI cn)) (C := RX0) (T := TX0) (N := 5) hx hb hts inX0 hown hE.1 hP 0 rfl rfl 4 (by decide) f_24 (fun _ h9 => h9) rfl dX0_note_5 ?_
  refine lv_iload_n hx hb dX0_note_8 rfl (lv_at hl 1 rfl) ?_
  refine mz_ist hx hb hE.1 hP hD hS 1 0 (f := D1) (n := 200) rfl rfl cn (by omega) (by omega) dX0_note_9 (fun H locs hP hD hS => ?_)
  have hP : va_P E.1 vwCl [(d0, .inr (0, [.ref d1, .ref d2, .ref d3, .ref d4, .int (nI cn)])), (d1, .inl (E.2.1 0, 200, .inl (upd D1 cn (nI dy)))), (d2, .inl (E.2.1 0, 200, .inl P1)), (d3, .inl (E.2.1 0, 200, .inl Q1)), (d4, .inl (E.2.1 0, 366, .inl V1))] H := hP
  have hD : va_D _ [(d0, .inr (0, [.ref d1, .ref d2, .ref d3, .ref d4, .int (nI cn)])), (d1, .inl (E.2.1 0, 200, .inl (upd D1 cn (nI dy)))), (d2, .inl (E.2.1 0, 200, .inl P1)), (d3, .inl (E.2.1 0, 200, .inl Q1)), (d4, .inl (E.2.1 0, 366, .inl V1))] := hD
  refine lv_aload_n hx hb dX0_note_10 rfl (lv_at hl 0 rfl) ?_
  refine va_get (D := E.1) (ci := 0) (v := .ref d2) (C := RX0) (T := TX0) (N := 5) hx hb hts inX0 hown hE.1 hP 0 rfl rfl 1 (by decide) f_15 (fun _ h9 => h9) rfl dX0_note_11 ?_
  refine lv_aload_n hx hb dX0_note_14 rfl (lv_at hl 0 rfl) ?_
  refine va_get (D := E.1) (ci := 0) (v := .int (nI cn)) (C := RX0) (T := TX0) (N := 5) hx hb hts inX0 hown hE.1 hP 0 rfl rfl 4 (by decide) f_24 (fun _ h9 => h9) rfl dX0_note_15 ?_
  refine lv_iload_n hx hb dX0_note_18 rfl (lv_at hl 2 rfl) ?_
  refine mz_ist hx hb hE.1 hP hD hS 2 0 (f := P1) (n := 200) rfl rfl cn (by omega) (by omega) dX0_note_19 (fun H locs hP hD hS => ?_)
  have hP : va_P E.1 vwCl [(d0, .inr (0, [.ref d1, .ref d2, .ref d3, .ref d4, .int (nI cn)])), (d1, .inl (E.2.1 0, 200, .inl (upd D1 cn (nI dy)))), (d2, .inl (E.2.1 0, 200, .inl (upd P1 cn (nI rg)))), (d3, .inl (E.2.1 0, 200, .inl Q1)), (d4, .inl (E.2.1 0, 366, .inl V1))] H := hP
  have hD : va_D _ [(d0, .inr (0, [.ref d1, .ref d2, .ref d3, .ref d4, .int (nI cn)])), (d1, .inl (E.2.1 0, 200, .inl (upd D1 cn (nI dy)))), (d2, .inl (E.2.1 0, 200, .inl (upd P1 cn (nI rg)))), (d3, .inl (E.2.1 0, 200, .inl Q1)), (d4, .inl (E.2.1 0, 366, .inl V1))] := hD
  refine lv_aload_n hx hb dX0_note_20 rfl (lv_at hl 0 rfl) ?_
  refine va_get (D := E.1) (ci := 0) (v := .ref d3) (C := RX0) (T := TX0) (N := 5) hx hb hts inX0 hown hE.1 hP 0 rfl rfl 2 (by decide) f_18 (fun _ h9 => h9) rfl dX0_note_21 ?_
  refine lv_aload_n hx hb dX0_note_24 rfl (lv_at hl 0 rfl) ?_
  refine va_get (D := E.1) (ci := 0) (v := .int (nI cn)) (C := RX0) (T := TX0) (N := 5) hx hb hts inX0 hown hE.1 hP 0 rfl rfl 4 (by decide) f_24 (fun _ h9 => h9) rfl dX0_note_25 ?_
  refine lv_iload_n hx hb dX0_note_28 rfl (lv_at hl 3 rfl) ?_
  refine mz_ist hx hb hE.1 hP hD hS 3 0 (f := Q1) (n := 200) rfl rfl cn (by omega) (by omega) dX0_note_29 (fun H locs hP hD hS => ?_)
  have hP : va_P E.1 vwCl [(d0, .inr (0, [.ref d1, .ref d2, .ref d3, .ref d4, .int (nI cn)])), (d1, .inl (E.2.1 0, 200, .inl (upd D1 cn (nI dy)))), (d2, .inl (E.2.1 0, 200, .inl (upd P1 cn (nI rg)))), (d3, .inl (E.2.1 0, 200, .inl (upd Q1 cn (nI sc)))), (d4, .inl (E.2.1 0, 366, .inl V1))] H := hP
  have hD : va_D _ [(d0, .inr (0, [.ref d1, .ref d2, .ref d3, .ref d4, .int (nI cn)])), (d1, .inl (E.2.1 0, 200, .inl (upd D1 cn (nI dy)))), (d2, .inl (E.2.1 0, 200, .inl (upd P1 cn (nI rg)))), (d3, .inl (E.2.1 0, 200, .inl (upd Q1 cn (nI sc)))), (d4, .inl (E.2.1 0, 366, .inl V1))] := hD
  refine lv_aload_n hx hb dX0_note_30 rfl (lv_at hl 0 rfl) ?_
  refine lv_dup hx hb dX0_note_31 rfl ?_
  refine va_get (D := E.1) (ci := 0) (v := .int (nI cn)) (C := RX0) (T := TX0) (N := 5) hx hb hts inX0 hown hE.1 hP 0 rfl rfl 4 (by decide) f_24 (fun _ h9 => h9) rfl dX0_note_32 ?_
  refine lv_iconst (v := 1) hx hb dX0_note_35 (by decide) ?_
  refine mz_addN hx hb cn 1 dX0_note_36 ?_
  refine va_put (D := E.1) (ci := 0) (v := .int (nI (cn + 1))) (ty := .int) (C := RX0) (T := TX0) (N := 5) hx hb hts inX0 tyX0 tyX0_ok nmX0 hown hE.1 hP hD hS 0 rfl rfl 4 (by decide) f_24 (fun _ h9 => h9) rfl (by decide +kernel) rfl rfl (Nat.le_of_ble_eq_true rfl) dX0_note_37 (fun H locs hP hD hS => ?_)
  have hP : va_P E.1 vwCl [(d0, .inr (0, [.ref d1, .ref d2, .ref d3, .ref d4, .int (nI (cn + 1))])), (d1, .inl (E.2.1 0, 200, .inl (upd D1 cn (nI dy)))), (d2, .inl (E.2.1 0, 200, .inl (upd P1 cn (nI rg)))), (d3, .inl (E.2.1 0, 200, .inl (upd Q1 cn (nI sc)))), (d4, .inl (E.2.1 0, 366, .inl V1))] H := hP
  have hD : va_D _ [(d0, .inr (0, [.ref d1, .ref d2, .ref d3, .ref d4, .int (nI (cn + 1))])), (d1, .inl (E.2.1 0, 200, .inl (upd D1 cn (nI dy)))), (d2, .inl (E.2.1 0, 200, .inl (upd P1 cn (nI rg)))), (d3, .inl (E.2.1 0, 200, .inl (upd Q1 cn (nI sc)))), (d4, .inl (E.2.1 0, 366, .inl V1))] := hD
  refine lv_aload_n hx hb dX0_note_40 rfl (lv_at hl 0 rfl) ?_
  refine va_get (D := E.1) (ci := 0) (v := .ref d4) (C := RX0) (T := TX0) (N := 5) hx hb hts inX0 hown hE.1 hP 0 rfl rfl 3 (by decide) f_21 (fun _ h9 => h9) rfl dX0_note_41 ?_
  refine lv_iload_n hx hb dX0_note_44 rfl (lv_at hl 1 rfl) ?_
  refine lv_bipush (v := 6) hx hb dX0_note_45 (by decide) ?_
  refine mz_mulN hx hb dy 6 dX0_note_47 ?_
  refine lv_iload_n hx hb dX0_note_48 rfl (lv_at hl 2 rfl) ?_
  refine mz_addN hx hb (dy * 6) rg dX0_note_49 ?_
  refine lv_dup2_11 hx hb dX0_note_50 rfl rfl ?_
  refine mz_ild hx hb hE.1 hP 4 0 (f := V1) (n := 366) rfl rfl ((dy * 6) + rg) (by omega) (by omega) dX0_note_51 ?_
  refine lv_iload hx hb dX0_note_52 (lv_at hl 4 rfl) ?_
  refine lv_iload hx hb dX0_note_54 (lv_at hl 4 rfl) ?_
  refine mz_mulN hx hb zz zz dX0_note_56 ?_
  refine lv_iadd hx hb dX0_note_57 ?_
  refine mz_ist hx hb hE.1 hP hD hS 4 0 (f := V1) (n := 366) rfl rfl ((dy * 6) + rg) (by omega) (by omega) dX0_note_58 (fun H locs hP hD hS => ?_)
  have hP : va_P E.1 vwCl [(d0, .inr (0, [.ref d1, .ref d2, .ref d3, .ref d4, .int (nI (cn + 1))])), (d1, .inl (E.2.1 0, 200, .inl (upd D1 cn (nI dy)))), (d2, .inl (E.2.1 0, 200, .inl (upd P1 cn (nI rg)))), (d3, .inl (E.2.1 0, 200, .inl (upd Q1 cn (nI sc)))), (d4, .inl (E.2.1 0, 366, .inl (upd V1 ((dy * 6) + rg) ((V1 ((dy * 6) + rg)) + (nI (zz * zz))))))] H := hP
  have hD : va_D _ [(d0, .inr (0, [.ref d1, .ref d2, .ref d3, .ref d4, .int (nI (cn + 1))])), (d1, .inl (E.2.1 0, 200, .inl (upd D1 cn (nI dy)))), (d2, .inl (E.2.1 0, 200, .inl (upd P1 cn (nI rg)))), (d3, .inl (E.2.1 0, 200, .inl (upd Q1 cn (nI sc)))), (d4, .inl (E.2.1 0, 366, .inl (upd V1 ((dy * 6) + rg) ((V1 ((dy * 6) + rg)) + (nI (zz * zz))))))] := hD
  have e9_4 : upd V1 (dy * 6 + rg) (V1 (dy * 6 + rg) + nI (zz * zz)) = upd V1 ((dy * 6) + rg) ((V1 ((dy * 6) + rg)) + (nI (zz * zz))) := by first | rfl
  have hB9 : va_P E.1 vwCl [(d0, .inr (0, [.ref d1, .ref d2, .ref d3, .ref d4, .int (nI (cn + 1))])), (d1, .inl (E.2.1 0, 200, .inl (upd D1 cn (nI dy)))), (d2, .inl (E.2.1 0, 200, .inl (upd P1 cn (nI rg)))), (d3, .inl (E.2.1 0, 200, .inl (upd Q1 cn (nI sc)))), (d4, .inl (E.2.1 0, 366, .inl (upd V1 (dy * 6 + rg) (V1 (dy * 6 + rg) + nI (zz * zz)))))] H := by rw [e9_4]; exact hP
  exact W.vret hx hb hr (fun t ht hW => ⟨⟨(), rfl, trivial, (by subst ht; exact hB9)⟩, hS.F ht⟩) hS.2.2 dX0_note_59
set_option maxHeartbeats 4000000 in
set_option maxRecDepth 100000 in
theorem kX0_activityOn (l : Launch) (E : ev_T) (d0 : Nat) (d1 : Nat) (d2 : Nat) (d3 : Nat) (d4 : Nat) (D1 : Nat → Int32) (P1 : Nat → Int32) (Q1 : Nat → Int32) (V1 : Nat → Int32) (cn : Nat) (dy : Nat) (rg : Nat) (h1 : dy ≤ 60) (h2 : rg < 6) : Met l yX0_activityOn wsX0_activityOn ({ frames := 0, cells := 0, slots := 0, locals := 0 } : Room) (va_Pc [.ref d0, .int (nI dy), .int (nI rg)] (pr_R E [(d0, .inr (0, [.ref d1, .ref d2, .ref d3, .ref d4, .int (nI cn)])), (d1, .inl (E.2.1 0, 200, .inl D1)), (d2, .inl (E.2.1 0, 200, .inl P1)), (d3, .inl (E.2.1 0, 200, .inl Q1)), (d4, .inl (E.2.1 0, 366, .inl V1))])) (va_Qi (fun (r : Int32) (_ : Unit) => r = V1 (dy * 6 + rg)) (fun _ _ => True) (fun _ : Nat => False)) 0 0 (fun _ : Nat => False) := by
  refine Met.ofW (cc := cX0_activityOn) (maxL := 3) (ret := (some .int)) (by decide) rfl ?_
  intro p e s m args below meth c s₁ B hml hv
  obtain ⟨rfl, hP, hE⟩ := hv
  have hx := B.exec
  have hb := B.bytes
  have hr := B.returns
  have hts := atoms_spec (ws := wsX0_activityOn) B.pre
  have hown : s.vm.findClass RX0 = some m.cls := findClass_of_methodNamed B.named
  have hlocks := B.notSynchronized
  refine mz_start (fun H locs hH hL => ?_)
  have hS : va_S (fun _ : Nat => False) s.heap H locs := by rw [hH, hL]; exact va_S.rf
  have f_21 := hts (.fieldLink RX0 21 "AvalancheDesk$Avalanches" "activities" "[I") (by decide +kernel)
  have inX0 : ∀ w ∈ wsX00, w ∈ wsX0_activityOn := by decide +kernel
  have hl := lv_entry ([.ref d0, .int (nI dy), .int (nI rg)]) (n := 3) (Nat.le_of_ble_eq_true rfl)
  rw [lg_entry_eq]
  generalize (lg_sl ([.ref d0, .int (nI dy), .int (nI rg)]) ++ List.replicate (3 - (lg_sl ([.ref d0, .int (nI dy), .int (nI rg)])).length) Slot.unset).toArray = ls at hl ⊢
  have hl : lv_has ls 3 [(0, .ref d0), (1, .int (nI dy)), (2, .int (nI rg))] := hl
  have hP : va_P E.1 vwCl [(d0, .inr (0, [.ref d1, .ref d2, .ref d3, .ref d4, .int (nI cn)])), (d1, .inl (E.2.1 0, 200, .inl D1)), (d2, .inl (E.2.1 0, 200, .inl P1)), (d3, .inl (E.2.1 0, 200, .inl Q1)), (d4, .inl (E.2.1 0, 366, .inl V1))] H := by rw [hH]; exact hP
  refine lv_aload_n hx hb dX0_activityOn_0 rfl (lv_at hl 0 rfl) ?_
  refine va_get (D := E.1) (ci := 0) (v := .ref d4) (C := RX0) (T := TX0) (N := 5) hx hb hts inX0 hown hE.1 hP 0 rfl rfl 3 (by decide) f_21 (fun _ h9 => h9) rfl dX0_activityOn_1 ?_
  refine lv_iload_n hx hb dX0_activityOn_4 rfl (lv_at hl 1 rfl) ?_
  refine lv_bipush (v := 6) hx hb dX0_activityOn_5 (by decide) ?_
  refine mz_mulN hx hb dy 6 dX0_activityOn_7 ?_
  refine lv_iload_n hx hb dX0_activityOn_8 rfl (lv_at hl 2 rfl) ?_
  refine mz_addN hx hb (dy * 6) rg dX0_activityOn_9 ?_
  refine mz_ild hx hb hE.1 hP 4 0 (f := V1) (n := 366) rfl rfl ((dy * 6) + rg) (by omega) (by omega) dX0_activityOn_10 ?_
  exact W.iret (v := V1 ((dy * 6) + rg)) hx hb hr (fun t ht hW => ⟨⟨_, (), rfl, (by first | rfl), trivial⟩, hS.F ht⟩) hS.2.2 dX0_activityOn_11
set_option maxHeartbeats 4000000 in
set_option maxRecDepth 100000 in
theorem kX1_rowOf (l : Launch) (E : ev_T) (dy : Nat) (rg : Nat) : Met l yX1_rowOf wsX1_rowOf ({ frames := 0, cells := 0, slots := 0, locals := 0 } : Room) (va_Pc [.int (nI dy), .int (nI rg)] (fun _ => True)) (va_Qi (fun (r : Int32) (_ : Unit) => r = nI ((dy * 6 + rg) * 3)) (fun _ _ => True) (fun _ : Nat => False)) 0 0 (fun _ : Nat => False) := by
  refine Met.ofW (cc := cX1_rowOf) (maxL := 2) (ret := (some .int)) (by decide) rfl ?_
  intro p e s m args below meth c s₁ B hml hv
  obtain ⟨rfl, -⟩ := hv
  have hx := B.exec
  have hb := B.bytes
  have hr := B.returns
  have hts := atoms_spec (ws := wsX1_rowOf) B.pre
  have hown : s.vm.findClass RX1 = some m.cls := findClass_of_methodNamed B.named
  have hlocks := B.notSynchronized
  refine mz_start (fun H locs hH hL => ?_)
  have hS : va_S (fun _ : Nat => False) s.heap H locs := by rw [hH, hL]; exact va_S.rf
  have hl := lv_entry ([.int (nI dy), .int (nI rg)]) (n := 2) (Nat.le_of_ble_eq_true rfl)
  rw [lg_entry_eq]
  generalize (lg_sl ([.int (nI dy), .int (nI rg)]) ++ List.replicate (2 - (lg_sl ([.int (nI dy), .int (nI rg)])).length) Slot.unset).toArray = ls at hl ⊢
  have hl : lv_has ls 2 [(0, .int (nI dy)), (1, .int (nI rg))] := hl
  refine lv_iload_n hx hb dX1_rowOf_0 rfl (lv_at hl 0 rfl) ?_
  refine lv_bipush (v := 6) hx hb dX1_rowOf_1 (by decide) ?_
  refine mz_mulN hx hb dy 6 dX1_rowOf_3 ?_
  refine lv_iload_n hx hb dX1_rowOf_4 rfl (lv_at hl 1 rfl) ?_
  refine mz_addN hx hb (dy * 6) rg dX1_rowOf_5 ?_
  refine lv_iconst (v := 3) hx hb dX1_rowOf_6 (by decide) ?_
  refine mz_mulN hx hb ((dy * 6) + rg) 3 dX1_rowOf_7 ?_
  exact W.iret (v := nI (((dy * 6) + rg) * 3)) hx hb hr (fun t ht hW => ⟨⟨_, (), rfl, (by first | rfl), trivial⟩, hS.F ht⟩) hS.2.2 dX1_rowOf_8
set_option maxHeartbeats 4000000 in
set_option maxRecDepth 100000 in
theorem kX1_tells (l : Launch) (E : ev_T) (b0 : Nat) (b1 : Nat) (b2 : Nat) (zs : Nat → Nat) (L1 : Nat → Int32) (bn : Nat) (dd : Int32) (rr : Int32) (hz : ∀ k, k ≤ 60 → zs k < 2147483648) : Met l yX1_tells wsX1_tells ({ frames := 0, cells := 0, slots := 0, locals := 0 } : Room) (va_Pc [.ref b0, .int dd, .int rr] (pr_R E [(b0, .inr (1, [.ref b1, .ref b2, .int (nI bn)])), (b1, .inl (E.2.1 0, 61, .inl (nF zs))), (b2, .inl (E.2.1 0, 1098, .inl L1))])) (va_Qi (fun (r : Int32) (_ : Unit) => r = tellsF zs dd rr) (fun _ _ => True) (fun _ : Nat => False)) 0 0 (fun _ : Nat => False) := by
  refine Met.ofW (cc := cX1_tells) (maxL := 3) (ret := (some .boolean)) (by decide) rfl ?_
  intro p e s m args below meth c s₁ B hml hv
  obtain ⟨rfl, hP, hE⟩ := hv
  have hx := B.exec
  have hb := B.bytes
  have hr := B.returns
  have hts := atoms_spec (ws := wsX1_tells) B.pre
  have hown : s.vm.findClass RX1 = some m.cls := findClass_of_methodNamed B.named
  have hlocks := B.notSynchronized
  refine mz_start (fun H locs hH hL => ?_)
  have hS : va_S (fun _ : Nat => False) s.heap H locs := by rw [hH, hL]; exact va_S.rf
  have f_9 := hts (.fieldLink RX1 9 "AvalancheDesk$Bulletins" "regionsTold" "[I") (by decide +kernel)
  have inX1 : ∀ w ∈ wsX10, w ∈ wsX1_tells := by decide +kernel
  have hl := lv_entry ([.ref b0, .int dd, .int rr]) (n := 3) (Nat.le_of_ble_eq_true rfl)
  rw [lg_entry_eq]
  generalize (lg_sl ([.ref b0, .int dd, .int rr]) ++ List.replicate (3 - (lg_sl ([.ref b0, .int dd, .int rr])).length) Slot.unset).toArray = ls at hl ⊢
  have hl : lv_has ls 3 [(0, .ref b0), (1, .int dd), (2, .int rr)] := hl
  have hP : va_P E.1 vwCl [(b0, .inr (1, [.ref b1, .ref b2, .int (nI bn)])), (b1, .inl (E.2.1 0, 61, .inl (nF zs))), (b2, .inl (E.2.1 0, 1098, .inl L1))] H := by rw [hH]; exact hP
  refine lv_iload_n hx hb dX1_tells_0 rfl (lv_at hl 1 rfl) ?_
  refine lv_if_lt (tgt := 28) hx hb dX1_tells_1 (by decide) (fun c_1 => ?_) (fun c_1 => ?_)
  · refine lv_iconst (v := 0) hx hb dX1_tells_28 (by decide) ?_
    exact W.zret (v := 0) hx hb hr rfl (fun t ht hW => ⟨⟨_, (), rfl, (by first | (simp only [tellsF, if_pos c_1]; done) | (try unfold tellsF; simp only [if_pos c_1]; done) | (try unfold tellsF; rfl) | rfl), trivial⟩, hS.F ht⟩) hS.2.2 dX1_tells_29
  · refine lv_iload_n hx hb dX1_tells_4 rfl (lv_at hl 1 rfl) ?_
    refine lv_bipush (v := 60) hx hb dX1_tells_5 (by decide) ?_
    refine mz_gt (tgt := 28) hx hb dX1_tells_7 (by decide) (fun c_7 => ?_) (fun c_7 => ?_)
    · refine lv_iconst (v := 0) hx hb dX1_tells_28 (by decide) ?_
      exact W.zret (v := 0) hx hb hr rfl (fun t ht hW => ⟨⟨_, (), rfl, (by first | (simp only [tellsF, if_neg c_1, if_pos c_7]; done) | (try unfold tellsF; simp only [if_neg c_1, if_pos c_7]; done) | (try unfold tellsF; rfl) | rfl), trivial⟩, hS.F ht⟩) hS.2.2 dX1_tells_29
    · refine lv_iload_n hx hb dX1_tells_10 rfl (lv_at hl 2 rfl) ?_
      refine lv_if_lt (tgt := 28) hx hb dX1_tells_11 (by decide) (fun c_11 => ?_) (fun c_11 => ?_)
      · refine lv_iconst (v := 0) hx hb dX1_tells_28 (by decide) ?_
        exact W.zret (v := 0) hx hb hr rfl (fun t ht hW => ⟨⟨_, (), rfl, (by first | (simp only [tellsF, if_neg c_1, if_neg c_7, if_pos c_11]; done) | (try unfold tellsF; simp only [if_neg c_1, if_neg c_7, if_pos c_11]; done) | (try unfold tellsF; rfl) | rfl), trivial⟩, hS.F ht⟩) hS.2.2 dX1_tells_29
      · obtain ⟨kk, hk, rfl⟩ := nI_of2 (M := 60) (n := 60) rfl c_1 (mz_nlt.mpr c_7)
        refine lv_iload_n hx hb dX1_tells_14 rfl (lv_at hl 2 rfl) ?_
        refine lv_aload_n hx hb dX1_tells_15 rfl (lv_at hl 0 rfl) ?_
        refine va_get (D := E.1) (ci := 1) (v := .ref b1) (C := RX1) (T := TX1) (N := 3) hx hb hts inX1 hown hE.1 hP 0 rfl rfl 0 (by decide) f_9 (fun _ h9 => h9) rfl dX1_tells_16 ?_
        refine lv_iload_n hx hb dX1_tells_19 rfl (lv_at hl 1 rfl) ?_
        refine mz_ild hx hb hE.1 hP 1 0 (f := nF zs) (n := 61) rfl rfl kk (by omega) (by omega) dX1_tells_20 ?_
        refine mz_fold (y := nI (zs kk)) rfl ?_
        refine mz_ge (tgt := 28) hx hb dX1_tells_21 (by decide) (fun c_21 => ?_) (fun c_21 => ?_)
        · refine lv_iconst (v := 0) hx hb dX1_tells_28 (by decide) ?_
          exact W.zret (v := 0) hx hb hr rfl (fun t ht hW => ⟨⟨_, (), rfl, (by first | (simp only [tellsF, if_neg c_1, if_neg c_7, if_neg c_11, nI_clamp (show kk < 2 ^ 31 by omega), if_neg c_21]; done) | (try unfold tellsF; simp only [if_neg c_1, if_neg c_7, if_neg c_11, nI_clamp (show kk < 2 ^ 31 by omega), if_neg c_21]; done) | (try unfold tellsF; rfl) | rfl), trivial⟩, hS.F ht⟩) hS.2.2 dX1_tells_29
        · refine lv_iconst (v := 1) hx hb dX1_tells_24 (by decide) ?_
          refine lv_goto (tgt := 29) hx hb dX1_tells_25 (by decide) ?_
          exact W.zret (v := 1) hx hb hr rfl (fun t ht hW => ⟨⟨_, (), rfl, (by first | (simp only [tellsF, if_neg c_1, if_neg c_7, if_neg c_11, nI_clamp (show kk < 2 ^ 31 by omega), if_pos c_21]; done) | (try unfold tellsF; simp only [if_neg c_1, if_neg c_7, if_neg c_11, nI_clamp (show kk < 2 ^ 31 by omega), if_pos c_21]; done) | (try unfold tellsF; rfl) | rfl), trivial⟩, hS.F ht⟩) hS.2.2 dX1_tells_29
set_option maxHeartbeats 4000000 in
set_option maxRecDepth 100000 in
theorem kX1_hasDay (l : Launch) (E : ev_T) (b0 : Nat) (b1 : Nat) (b2 : Nat) (zs : Nat → Nat) (L1 : Nat → Int32) (bn : Nat) (dy : Nat) (hz : ∀ k, k ≤ 60 → zs k < 2147483648) (h1 : dy ≤ 60) : Met l yX1_hasDay wsX1_hasDay ({ frames := 1, cells := 0, slots := 0, locals := 22 } : Room) (va_Pc [.ref b0, .int (nI dy)] (pr_R E [(b0, .inr (1, [.ref b1, .ref b2, .int (nI bn)])), (b1, .inl (E.2.1 0, 61, .inl (nF zs))), (b2, .inl (E.2.1 0, 1098, .inl L1))])) (va_Qi (fun (r : Int32) (_ : Unit) => r = tellsN zs dy 0) (fun _ _ => True) (fun _ : Nat => False)) 0 0 (fun _ : Nat => False) := by
  refine Met.ofW (cc := cX1_hasDay) (maxL := 2) (ret := (some .boolean)) (by decide) rfl ?_
  intro p e s m args below meth c s₁ B hml hv
  obtain ⟨rfl, hP, hE⟩ := hv
  have hx := B.exec
  have hb := B.bytes
  have hr := B.returns
  have hts := atoms_spec (ws := wsX1_hasDay) B.pre
  have hown : s.vm.findClass RX1 = some m.cls := findClass_of_methodNamed B.named
  have hlocks := B.notSynchronized
  refine mz_start (fun H locs hH hL => ?_)
  have hS : va_S (fun _ : Nat => False) s.heap H locs := by rw [hH, hL]; exact va_S.rf
  have hl := lv_entry ([.ref b0, .int (nI dy)]) (n := 2) (Nat.le_of_ble_eq_true rfl)
  rw [lg_entry_eq]
  generalize (lg_sl ([.ref b0, .int (nI dy)]) ++ List.replicate (2 - (lg_sl ([.ref b0, .int (nI dy)])).length) Slot.unset).toArray = ls at hl ⊢
  have hl : lv_has ls 2 [(0, .ref b0), (1, .int (nI dy))] := hl
  have hP : va_P E.1 vwCl [(b0, .inr (1, [.ref b1, .ref b2, .int (nI bn)])), (b1, .inl (E.2.1 0, 61, .inl (nF zs))), (b2, .inl (E.2.1 0, 1098, .inl L1))] H := by rw [hH]; exact hP
  refine lv_aload_n hx hb dX1_hasDay_0 rfl (lv_at hl 0 rfl) ?_
  refine lv_iload_n hx hb dX1_hasDay_1 rfl (lv_at hl 1 rfl) ?_
  refine lv_iconst (v := 0) hx hb dX1_hasDay_2 (by decide) ?_
  refine va_calli (va_runV (As := [.int (nI dy), .int 0]) (rest := []) ⟨hx, hb, hml, hown, hts⟩ (kX1_tells l E b0 b1 b2 zs L1 bn (nI dy) 0 (by first | omega | assumption | (intro k h; have := hz k h; omega))) (cwV 2 hts gX1_hasDay_X1_tells rfl rfl rfl (by decide +kernel) ⟨Nat.le_of_ble_eq_true rfl, Nat.le_of_ble_eq_true rfl⟩) ⟨fb_R, va_recv hE.1 hP (ci := 1) (q0 := 0) rfl rfl, fun U hU hW => ⟨rfl, (by rw [hU]; exact hP), hE.warm hW⟩⟩ rfl rfl hl.1 rfl (lv_room (Nat.le_of_ble_eq_true rfl)) dX1_hasDay_3 ⟨by first | exact Nat.le_of_ble_eq_true rfl | (show _ ≤ 0; omega), by first | exact Nat.le_of_ble_eq_true rfl | (show _ ≤ 0; omega)⟩) hS (fun q _ h => h.elim) (fun q h => h.elim) (fun r3_0 u t H1 locs ht hvm hw hB hz1 hk1 hS => ?_)
  have hP := hP.ro hk1
  generalize H1 = H at hP hS ⊢
  subst hw
  exact W.zret (v := tellsF zs (nI dy) 0) hx hb hr (tellsF_b _ _ _) (fun t ht hW => ⟨⟨_, (), rfl, (tells_nat h1 (by decide) (hz _ h1)), trivial⟩, hS.F ht⟩) hS.2.2 dX1_hasDay_6
set_option maxHeartbeats 4000000 in
set_option maxRecDepth 100000 in
theorem kX1_write (l : Launch) (E : ev_T) (b0 : Nat) (b1 : Nat) (b2 : Nat) (zs : Nat → Nat) (L1 : Nat → Int32) (bn : Nat) (dy : Nat) (rg : Nat) (lv : Int32) (co : Int32) (pb : Int32) (sz : Nat) (h1 : dy ≤ 60) (h2 : rg < 6) : Met l yX1_write wsX1_write ({ frames := 1, cells := 0, slots := 0, locals := 21 } : Room) (va_Pc [.ref b0, .int (nI dy), .int (nI rg), .int lv, .int co, .int pb] (pr_W E [(b0, .inr (1, [.ref b1, .ref b2, .int (nI bn)])), (b1, .inl (E.2.1 0, 61, .inl (nF zs))), (b2, .inl (E.2.1 0, 1098, .inl L1))] sz)) (va_Qv (fun (_ : Unit) => True) (fun _ t => va_P E.1 vwCl [(b0, .inr (1, [.ref b1, .ref b2, .int (nI bn)])), (b1, .inl (E.2.1 0, 61, .inl (nF zs))), (b2, .inl (E.2.1 0, 1098, .inl (upd (upd (upd L1 ((dy * 6 + rg) * 3 + 0) lv) ((dy * 6 + rg) * 3 + 1) co) ((dy * 6 + rg) * 3 + 2) pb)))] t.heap) (va_A [(b0, .inr (1, [.ref b1, .ref b2, .int (nI bn)])), (b1, .inl (E.2.1 0, 61, .inl (nF zs))), (b2, .inl (E.2.1 0, 1098, .inl L1))] sz)) 0 0 (va_A [(b0, .inr (1, [.ref b1, .ref b2, .int (nI bn)])), (b1, .inl (E.2.1 0, 61, .inl (nF zs))), (b2, .inl (E.2.1 0, 1098, .inl L1))] sz) := by
  refine Met.ofW (cc := cX1_write) (maxL := 7) (ret := none) (by decide) rfl ?_
  intro p e s m args below meth c s₁ B hml hv
  obtain ⟨rfl, hsz, hP, hD0, hE⟩ := hv
  have hx := B.exec
  have hb := B.bytes
  have hr := B.returns
  have hts := atoms_spec (ws := wsX1_write) B.pre
  have hown : s.vm.findClass RX1 = some m.cls := findClass_of_methodNamed B.named
  have hlocks := B.notSynchronized
  subst hsz
  have hD : va_D (va_A [(b0, .inr (1, [.ref b1, .ref b2, .int (nI bn)])), (b1, .inl (E.2.1 0, 61, .inl (nF zs))), (b2, .inl (E.2.1 0, 1098, .inl L1))] s.heap.size) [(b0, .inr (1, [.ref b1, .ref b2, .int (nI bn)])), (b1, .inl (E.2.1 0, 61, .inl (nF zs))), (b2, .inl (E.2.1 0, 1098, .inl L1))] := hD0.self
  have hA : ∀ q : Nat, s.heap.size ≤ q → (va_A [(b0, .inr (1, [.ref b1, .ref b2, .int (nI bn)])), (b1, .inl (E.2.1 0, 61, .inl (nF zs))), (b2, .inl (E.2.1 0, 1098, .inl L1))] s.heap.size) q := fun q h => Or.inr h
  refine mz_start (fun H locs hH hL => ?_)
  have hS : va_S (va_A [(b0, .inr (1, [.ref b1, .ref b2, .int (nI bn)])), (b1, .inl (E.2.1 0, 61, .inl (nF zs))), (b2, .inl (E.2.1 0, 1098, .inl L1))] s.heap.size) s.heap H locs := by rw [hH, hL]; exact va_S.rf
  have f_15 := hts (.fieldLink RX1 15 "AvalancheDesk$Bulletins" "told" "[I") (by decide +kernel)
  have inX1 : ∀ w ∈ wsX10, w ∈ wsX1_write := by decide +kernel
  have hl := lv_entry ([.ref b0, .int (nI dy), .int (nI rg), .int lv, .int co, .int pb]) (n := 7) (Nat.le_of_ble_eq_true rfl)
  rw [lg_entry_eq]
  generalize (lg_sl ([.ref b0, .int (nI dy), .int (nI rg), .int lv, .int co, .int pb]) ++ List.replicate (7 - (lg_sl ([.ref b0, .int (nI dy), .int (nI rg), .int lv, .int co, .int pb])).length) Slot.unset).toArray = ls at hl ⊢
  have hl : lv_has ls 7 [(0, .ref b0), (1, .int (nI dy)), (2, .int (nI rg)), (3, .int lv), (4, .int co), (5, .int pb)] := hl
  have hP : va_P E.1 vwCl [(b0, .inr (1, [.ref b1, .ref b2, .int (nI bn)])), (b1, .inl (E.2.1 0, 61, .inl (nF zs))), (b2, .inl (E.2.1 0, 1098, .inl L1))] H := by rw [hH]; exact hP
  refine lv_iload_n hx hb dX1_write_0 rfl (lv_at hl 1 rfl) ?_
  refine lv_iload_n hx hb dX1_write_1 rfl (lv_at hl 2 rfl) ?_
  refine va_calli (va_runS (As := [.int (nI dy), .int (nI rg)]) (rest := []) ⟨hx, hb, hml, hown, hts⟩ (kX1_rowOf l E dy rg) (va_cwS 2 hts gX1_write_X1_rowOf rfl rfl rfl (by decide +kernel) ⟨Nat.le_of_ble_eq_true rfl, Nat.le_of_ble_eq_true rfl⟩) ⟨fb_0, fun U hU hW => ⟨rfl, trivial⟩⟩ rfl rfl hl.1 rfl (lv_room (Nat.le_of_ble_eq_true rfl)) dX1_write_2 ⟨by first | exact Nat.le_of_ble_eq_true rfl | (show _ ≤ 0; omega), by first | exact Nat.le_of_ble_eq_true rfl | (show _ ≤ 0; omega)⟩) hS (fun q _ h => h.elim) (fun q h => h.elim) (fun r2_0 u t H1 locs ht hvm hw hB hz1 hk1 hS => ?_)
  have hP := hP.ro hk1
  generalize H1 = H at hP hS ⊢
  subst hw
  refine lv_istore (lv' := [(6, .int (nI ((dy * 6 + rg) * 3))), (0, .ref b0), (1, .int (nI dy)), (2, .int (nI rg)), (3, .int lv), (4, .int co), (5, .int pb)]) hx hb dX1_write_5 hl (by decide) rfl (fun ls hl => ?_)
  refine lv_aload_n hx hb dX1_write_7 rfl (lv_at hl 1 rfl) ?_
  refine va_get (D := E.1) (ci := 1) (v := .ref b2) (C := RX1) (T := TX1) (N := 3) hx hb hts inX1 hown hE.1 hP 0 rfl rfl 1 (by decide) f_15 (fun _ h9 => h9) rfl dX1_write_8 ?_
  refine lv_iload hx hb dX1_write_11 (lv_at hl 0 rfl) ?_
  refine lv_iconst (v := 0) hx hb dX1_write_13 (by decide) ?_
  refine mz_addN hx hb ((dy * 6 + rg) * 3) 0 dX1_write_14 ?_
  refine lv_iload_n hx hb dX1_write_15 rfl (lv_at hl 4 rfl) ?_
  refine mz_ist hx hb hE.1 hP hD hS 2 0 (f := L1) (n := 1098) rfl rfl (((dy * 6 + rg) * 3) + 0) (by omega) (by omega) dX1_write_16 (fun H locs hP hD hS => ?_)
  have hP : va_P E.1 vwCl [(b0, .inr (1, [.ref b1, .ref b2, .int (nI bn)])), (b1, .inl (E.2.1 0, 61, .inl (nF zs))), (b2, .inl (E.2.1 0, 1098, .inl (upd L1 (((dy * 6 + rg) * 3) + 0) lv)))] H := hP
  have hD : va_D _ [(b0, .inr (1, [.ref b1, .ref b2, .int (nI bn)])), (b1, .inl (E.2.1 0, 61, .inl (nF zs))), (b2, .inl (E.2.1 0, 1098, .inl (upd L1 (((dy * 6 + rg) * 3) + 0) lv)))] := hD
  refine lv_aload_n hx hb dX1_write_17 rfl (lv_at hl 1 rfl) ?_
  refine va_get (D := E.1) (ci := 1) (v := .ref b2) (C := RX1) (T := TX1) (N := 3) hx hb hts inX1 hown hE.1 hP 0 rfl rfl 1 (by decide) f_15 (fun _ h9 => h9) rfl dX1_write_18 ?_
  refine lv_iload hx hb dX1_write_21 (lv_at hl 0 rfl) ?_
  refine lv_iconst (v := 1) hx hb dX1_write_23 (by decide) ?_
  refine mz_addN hx hb ((dy * 6 + rg) * 3) 1 dX1_write_24 ?_
  refine lv_iload hx hb dX1_write_25 (lv_at hl 5 rfl) ?_
  refine mz_ist hx hb hE.1 hP hD hS 2 0 (f := upd L1 (((dy * 6 + rg) * 3) + 0) lv) (n := 1098) rfl rfl (((dy * 6 + rg) * 3) + 1) (by omega) (by omega) dX1_write_27 (fun H locs hP hD hS => ?_)
  have hP : va_P E.1 vwCl [(b0, .inr (1, [.ref b1, .ref b2, .int (nI bn)])), (b1, .inl (E.2.1 0, 61, .inl (nF zs))), (b2, .inl (E.2.1 0, 1098, .inl (upd (upd L1 (((dy * 6 + rg) * 3) + 0) lv) (((dy * 6 + rg) * 3) + 1) co)))] H := hP
  have hD : va_D _ [(b0, .inr (1, [.ref b1, .ref b2, .int (nI bn)])), (b1, .inl (E.2.1 0, 61, .inl (nF zs))), (b2, .inl (E.2.1 0, 1098, .inl (upd (upd L1 (((dy * 6 + rg) * 3) + 0) lv) (((dy * 6 + rg) * 3) + 1) co)))] := hD
  refine lv_aload_n hx hb dX1_write_28 rfl (lv_at hl 1 rfl) ?_
  refine va_get (D := E.1) (ci := 1) (v := .ref b2) (C := RX1) (T := TX1) (N := 3) hx hb hts inX1 hown hE.1 hP 0 rfl rfl 1 (by decide) f_15 (fun _ h9 => h9) rfl dX1_write_29 ?_
  refine lv_iload hx hb dX1_write_32 (lv_at hl 0 rfl) ?_
  refine lv_iconst (v := 2) hx hb dX1_write_34 (by decide) ?_
  refine mz_addN hx hb ((dy * 6 + rg) * 3) 2 dX1_write_35 ?_
  refine lv_iload hx hb dX1_write_36 (lv_at hl 6 rfl) ?_
  refine mz_ist hx hb hE.1 hP hD hS 2 0 (f := upd (upd L1 (((dy * 6 + rg) * 3) + 0) lv) (((dy * 6 + rg) * 3) + 1) co) (n := 1098) rfl rfl (((dy * 6 + rg) * 3) + 2) (by omega) (by omega) dX1_write_38 (fun H locs hP hD hS => ?_)
  have hP : va_P E.1 vwCl [(b0, .inr (1, [.ref b1, .ref b2, .int (nI bn)])), (b1, .inl (E.2.1 0, 61, .inl (nF zs))), (b2, .inl (E.2.1 0, 1098, .inl (upd (upd (upd L1 (((dy * 6 + rg) * 3) + 0) lv) (((dy * 6 + rg) * 3) + 1) co) (((dy * 6 + rg) * 3) + 2) pb)))] H := hP
  have hD : va_D _ [(b0, .inr (1, [.ref b1, .ref b2, .int (nI bn)])), (b1, .inl (E.2.1 0, 61, .inl (nF zs))), (b2, .inl (E.2.1 0, 1098, .inl (upd (upd (upd L1 (((dy * 6 + rg) * 3) + 0) lv) (((dy * 6 + rg) * 3) + 1) co) (((dy * 6 + rg) * 3) + 2) pb)))] := hD
  have e9_2 : upd (upd (upd L1 ((dy * 6 + rg) * 3 + 0) lv) ((dy * 6 + rg) * 3 + 1) co) ((dy * 6 + rg) * 3 + 2) pb = upd (upd (upd L1 (((dy * 6 + rg) * 3) + 0) lv) (((dy * 6 + rg) * 3) + 1) co) (((dy * 6 + rg) * 3) + 2) pb := by first | rfl
  have hB9 : va_P E.1 vwCl [(b0, .inr (1, [.ref b1, .ref b2, .int (nI bn)])), (b1, .inl (E.2.1 0, 61, .inl (nF zs))), (b2, .inl (E.2.1 0, 1098, .inl (upd (upd (upd L1 ((dy * 6 + rg) * 3 + 0) lv) ((dy * 6 + rg) * 3 + 1) co) ((dy * 6 + rg) * 3 + 2) pb)))] H := by rw [e9_2]; exact hP
  exact W.vret hx hb hr (fun t ht hW => ⟨⟨(), rfl, trivial, (by subst ht; exact hB9)⟩, hS.F ht⟩) hS.2.2 dX1_write_39
set_option maxHeartbeats 4000000 in
set_option maxRecDepth 100000 in
theorem kX1_close (l : Launch) (E : ev_T) (b0 : Nat) (b1 : Nat) (b2 : Nat) (zs : Nat → Nat) (L1 : Nat → Int32) (bn : Nat) (dy : Nat) (rn : Nat) (sz : Nat) (h1 : dy ≤ 60) : Met l yX1_close wsX1_close ({ frames := 0, cells := 0, slots := 0, locals := 0 } : Room) (va_Pc [.ref b0, .int (nI dy), .int (nI rn)] (pr_W E [(b0, .inr (1, [.ref b1, .ref b2, .int (nI bn)])), (b1, .inl (E.2.1 0, 61, .inl (nF zs))), (b2, .inl (E.2.1 0, 1098, .inl L1))] sz)) (va_Qv (fun (_ : Unit) => True) (fun _ t => va_P E.1 vwCl [(b0, .inr (1, [.ref b1, .ref b2, .int (nI (bn + 1))])), (b1, .inl (E.2.1 0, 61, .inl (nF (va_up zs dy rn)))), (b2, .inl (E.2.1 0, 1098, .inl L1))] t.heap) (va_A [(b0, .inr (1, [.ref b1, .ref b2, .int (nI bn)])), (b1, .inl (E.2.1 0, 61, .inl (nF zs))), (b2, .inl (E.2.1 0, 1098, .inl L1))] sz)) 0 0 (va_A [(b0, .inr (1, [.ref b1, .ref b2, .int (nI bn)])), (b1, .inl (E.2.1 0, 61, .inl (nF zs))), (b2, .inl (E.2.1 0, 1098, .inl L1))] sz) := by
  refine Met.ofW (cc := cX1_close) (maxL := 3) (ret := none) (by decide) rfl ?_
  intro p e s m args below meth c s₁ B hml hv
  obtain ⟨rfl, hsz, hP, hD0, hE⟩ := hv
  have hx := B.exec
  have hb := B.bytes
  have hr := B.returns
  have hts := atoms_spec (ws := wsX1_close) B.pre
  have hown : s.vm.findClass RX1 = some m.cls := findClass_of_methodNamed B.named
  have hlocks := B.notSynchronized
  subst hsz
  have hD : va_D (va_A [(b0, .inr (1, [.ref b1, .ref b2, .int (nI bn)])), (b1, .inl (E.2.1 0, 61, .inl (nF zs))), (b2, .inl (E.2.1 0, 1098, .inl L1))] s.heap.size) [(b0, .inr (1, [.ref b1, .ref b2, .int (nI bn)])), (b1, .inl (E.2.1 0, 61, .inl (nF zs))), (b2, .inl (E.2.1 0, 1098, .inl L1))] := hD0.self
  have hA : ∀ q : Nat, s.heap.size ≤ q → (va_A [(b0, .inr (1, [.ref b1, .ref b2, .int (nI bn)])), (b1, .inl (E.2.1 0, 61, .inl (nF zs))), (b2, .inl (E.2.1 0, 1098, .inl L1))] s.heap.size) q := fun q h => Or.inr h
  refine mz_start (fun H locs hH hL => ?_)
  have hS : va_S (va_A [(b0, .inr (1, [.ref b1, .ref b2, .int (nI bn)])), (b1, .inl (E.2.1 0, 61, .inl (nF zs))), (b2, .inl (E.2.1 0, 1098, .inl L1))] s.heap.size) s.heap H locs := by rw [hH, hL]; exact va_S.rf
  have f_9 := hts (.fieldLink RX1 9 "AvalancheDesk$Bulletins" "regionsTold" "[I") (by decide +kernel)
  have inX1 : ∀ w ∈ wsX10, w ∈ wsX1_close := by decide +kernel
  have f_26 := hts (.fieldLink RX1 26 "AvalancheDesk$Bulletins" "count" "I") (by decide +kernel)
  have hl := lv_entry ([.ref b0, .int (nI dy), .int (nI rn)]) (n := 3) (Nat.le_of_ble_eq_true rfl)
  rw [lg_entry_eq]
  generalize (lg_sl ([.ref b0, .int (nI dy), .int (nI rn)]) ++ List.replicate (3 - (lg_sl ([.ref b0, .int (nI dy), .int (nI rn)])).length) Slot.unset).toArray = ls at hl ⊢
  have hl : lv_has ls 3 [(0, .ref b0), (1, .int (nI dy)), (2, .int (nI rn))] := hl
  have hP : va_P E.1 vwCl [(b0, .inr (1, [.ref b1, .ref b2, .int (nI bn)])), (b1, .inl (E.2.1 0, 61, .inl (nF zs))), (b2, .inl (E.2.1 0, 1098, .inl L1))] H := by rw [hH]; exact hP
  refine lv_aload_n hx hb dX1_close_0 rfl (lv_at hl 0 rfl) ?_
  refine va_get (D := E.1) (ci := 1) (v := .ref b1) (C := RX1) (T := TX1) (N := 3) hx hb hts inX1 hown hE.1 hP 0 rfl rfl 0 (by decide) f_9 (fun _ h9 => h9) rfl dX1_close_1 ?_
  refine lv_iload_n hx hb dX1_close_4 rfl (lv_at hl 1 rfl) ?_
  refine lv_iload_n hx hb dX1_close_5 rfl (lv_at hl 2 rfl) ?_
  refine mz_ist hx hb hE.1 hP hD hS 1 0 (f := nF zs) (n := 61) rfl rfl dy (by omega) (by omega) dX1_close_6 (fun H locs hP hD hS => ?_)
  rw [nF_upd] at hP hD
  have hP : va_P E.1 vwCl [(b0, .inr (1, [.ref b1, .ref b2, .int (nI bn)])), (b1, .inl (E.2.1 0, 61, .inl (nF (va_up zs dy rn)))), (b2, .inl (E.2.1 0, 1098, .inl L1))] H := hP
  have hD : va_D _ [(b0, .inr (1, [.ref b1, .ref b2, .int (nI bn)])), (b1, .inl (E.2.1 0, 61, .inl (nF (va_up zs dy rn)))), (b2, .inl (E.2.1 0, 1098, .inl L1))] := hD
  refine lv_aload_n hx hb dX1_close_7 rfl (lv_at hl 0 rfl) ?_
  refine lv_dup hx hb dX1_close_8 rfl ?_
  refine va_get (D := E.1) (ci := 1) (v := .int (nI bn)) (C := RX1) (T := TX1) (N := 3) hx hb hts inX1 hown hE.1 hP 0 rfl rfl 2 (by decide) f_26 (fun _ h9 => h9) rfl dX1_close_9 ?_
  refine lv_iconst (v := 1) hx hb dX1_close_12 (by decide) ?_
  refine mz_addN hx hb bn 1 dX1_close_13 ?_
  refine va_put (D := E.1) (ci := 1) (v := .int (nI (bn + 1))) (ty := .int) (C := RX1) (T := TX1) (N := 3) hx hb hts inX1 tyX1 tyX1_ok nmX1 hown hE.1 hP hD hS 0 rfl rfl 2 (by decide) f_26 (fun _ h9 => h9) rfl (by decide +kernel) rfl rfl (Nat.le_of_ble_eq_true rfl) dX1_close_14 (fun H locs hP hD hS => ?_)
  have hP : va_P E.1 vwCl [(b0, .inr (1, [.ref b1, .ref b2, .int (nI (bn + 1))])), (b1, .inl (E.2.1 0, 61, .inl (nF (va_up zs dy rn)))), (b2, .inl (E.2.1 0, 1098, .inl L1))] H := hP
  have hD : va_D _ [(b0, .inr (1, [.ref b1, .ref b2, .int (nI (bn + 1))])), (b1, .inl (E.2.1 0, 61, .inl (nF (va_up zs dy rn)))), (b2, .inl (E.2.1 0, 1098, .inl L1))] := hD
  have hB9 : va_P E.1 vwCl [(b0, .inr (1, [.ref b1, .ref b2, .int (nI (bn + 1))])), (b1, .inl (E.2.1 0, 61, .inl (nF (va_up zs dy rn)))), (b2, .inl (E.2.1 0, 1098, .inl L1))] H := by exact hP
  exact W.vret hx hb hr (fun t ht hW => ⟨⟨(), rfl, trivial, (by subst ht; exact hB9)⟩, hS.F ht⟩) hS.2.2 dX1_close_17
set_option maxHeartbeats 4000000 in
set_option maxRecDepth 100000 in
theorem kX1_read (l : Launch) (E : ev_T) (b0 : Nat) (b1 : Nat) (b2 : Nat) (zs : Nat → Nat) (L1 : Nat → Int32) (bn : Nat) (dy : Nat) (rg : Nat) (wh : Nat) (h1 : dy ≤ 60) (h2 : rg < 6) (h3 : wh < 3) : Met l yX1_read wsX1_read ({ frames := 1, cells := 0, slots := 0, locals := 21 } : Room) (va_Pc [.ref b0, .int (nI dy), .int (nI rg), .int (nI wh)] (pr_R E [(b0, .inr (1, [.ref b1, .ref b2, .int (nI bn)])), (b1, .inl (E.2.1 0, 61, .inl (nF zs))), (b2, .inl (E.2.1 0, 1098, .inl L1))])) (va_Qi (fun (r : Int32) (_ : Unit) => r = L1 ((dy * 6 + rg) * 3 + wh)) (fun _ _ => True) (fun _ : Nat => False)) 0 0 (fun _ : Nat => False) := by
  refine Met.ofW (cc := cX1_read) (maxL := 4) (ret := (some .int)) (by decide) rfl ?_
  intro p e s m args below meth c s₁ B hml hv
  obtain ⟨rfl, hP, hE⟩ := hv
  have hx := B.exec
  have hb := B.bytes
  have hr := B.returns
  have hts := atoms_spec (ws := wsX1_read) B.pre
  have hown : s.vm.findClass RX1 = some m.cls := findClass_of_methodNamed B.named
  have hlocks := B.notSynchronized
  refine mz_start (fun H locs hH hL => ?_)
  have hS : va_S (fun _ : Nat => False) s.heap H locs := by rw [hH, hL]; exact va_S.rf
  have f_15 := hts (.fieldLink RX1 15 "AvalancheDesk$Bulletins" "told" "[I") (by decide +kernel)
  have inX1 : ∀ w ∈ wsX10, w ∈ wsX1_read := by decide +kernel
  have hl := lv_entry ([.ref b0, .int (nI dy), .int (nI rg), .int (nI wh)]) (n := 4) (Nat.le_of_ble_eq_true rfl)
  rw [lg_entry_eq]
  generalize (lg_sl ([.ref b0, .int (nI dy), .int (nI rg), .int (nI wh)]) ++ List.replicate (4 - (lg_sl ([.ref b0, .int (nI dy), .int (nI rg), .int (nI wh)])).length) Slot.unset).toArray = ls at hl ⊢
  have hl : lv_has ls 4 [(0, .ref b0), (1, .int (nI dy)), (2, .int (nI rg)), (3, .int (nI wh))] := hl
  have hP : va_P E.1 vwCl [(b0, .inr (1, [.ref b1, .ref b2, .int (nI bn)])), (b1, .inl (E.2.1 0, 61, .inl (nF zs))), (b2, .inl (E.2.1 0, 1098, .inl L1))] H := by rw [hH]; exact hP
  refine lv_aload_n hx hb dX1_read_0 rfl (lv_at hl 0 rfl) ?_
  refine va_get (D := E.1) (ci := 1) (v := .ref b2) (C := RX1) (T := TX1) (N := 3) hx hb hts inX1 hown hE.1 hP 0 rfl rfl 1 (by decide) f_15 (fun _ h9 => h9) rfl dX1_read_1 ?_
  refine lv_iload_n hx hb dX1_read_4 rfl (lv_at hl 1 rfl) ?_
  refine lv_iload_n hx hb dX1_read_5 rfl (lv_at hl 2 rfl) ?_
  refine va_calli (va_runS (As := [.int (nI dy), .int (nI rg)]) (rest := [.ref b2]) ⟨hx, hb, hml, hown, hts⟩ (kX1_rowOf l E dy rg) (va_cwS 2 hts gX1_read_X1_rowOf rfl rfl rfl (by decide +kernel) ⟨Nat.le_of_ble_eq_true rfl, Nat.le_of_ble_eq_true rfl⟩) ⟨fb_0, fun U hU hW => ⟨rfl, trivial⟩⟩ rfl rfl hl.1 rfl (lv_room (Nat.le_of_ble_eq_true rfl)) dX1_read_6 ⟨by first | exact Nat.le_of_ble_eq_true rfl | (show _ ≤ 0; omega), by first | exact Nat.le_of_ble_eq_true rfl | (show _ ≤ 0; omega)⟩) hS (fun q _ h => h.elim) (fun q h => h.elim) (fun r6_0 u t H1 locs ht hvm hw hB hz1 hk1 hS => ?_)
  have hP := hP.ro hk1
  generalize H1 = H at hP hS ⊢
  subst hw
  refine lv_iload_n hx hb dX1_read_9 rfl (lv_at hl 3 rfl) ?_
  refine mz_addN hx hb ((dy * 6 + rg) * 3) wh dX1_read_10 ?_
  refine mz_ild hx hb hE.1 hP 2 0 (f := L1) (n := 1098) rfl rfl (((dy * 6 + rg) * 3) + wh) (by omega) (by omega) dX1_read_11 ?_
  exact W.iret (v := L1 (((dy * 6 + rg) * 3) + wh)) hx hb hr (fun t ht hW => ⟨⟨_, (), rfl, (by first | rfl), trivial⟩, hS.F ht⟩) hS.2.2 dX1_read_12
set_option maxHeartbeats 4000000 in
set_option maxRecDepth 100000 in
theorem kX4_leastActivity (l : Launch) (E : ev_T) (ln : Nat) (h1 : 1 ≤ ln) (h2 : ln ≤ 5) : Met l yX4_leastActivity wsX4_leastActivity ({ frames := 0, cells := 0, slots := 0, locals := 0 } : Room) (va_Pc [.int (nI ln)] (fun _ => True)) (va_Qi (fun (r : Int32) (_ : Unit) => r = nI (ltA ln)) (fun _ _ => True) (fun _ : Nat => False)) 0 0 (fun _ : Nat => False) := by
  refine Met.ofW (cc := cX4_leastActivity) (maxL := 1) (ret := (some .int)) (by decide) rfl ?_
  intro p e s m args below meth c s₁ B hml hv
  obtain ⟨rfl, -⟩ := hv
  have hx := B.exec
  have hb := B.bytes
  have hr := B.returns
  have hts := atoms_spec (ws := wsX4_leastActivity) B.pre
  have hown : s.vm.findClass RX4 = some m.cls := findClass_of_methodNamed B.named
  have hlocks := B.notSynchronized
  refine mz_start (fun H locs hH hL => ?_)
  have hS : va_S (fun _ : Nat => False) s.heap H locs := by rw [hH, hL]; exact va_S.rf
  have hl := lv_entry ([.int (nI ln)]) (n := 1) (Nat.le_of_ble_eq_true rfl)
  rw [lg_entry_eq]
  generalize (lg_sl ([.int (nI ln)]) ++ List.replicate (1 - (lg_sl ([.int (nI ln)])).length) Slot.unset).toArray = ls at hl ⊢
  have hl : lv_has ls 1 [(0, .int (nI ln))] := hl
  refine lv_iload_n hx hb dX4_leastActivity_0 rfl (lv_at hl 0 rfl) ?_
  rcases (show ln = 1 ∨ ln = 2 ∨ ln = 3 ∨ ln = 4 ∨ ln = 5 from by omega) with rfl | rfl | rfl | rfl | rfl
  · refine lv_tableOut (tgt := 36) hx hb dX4_leastActivity_1 (by decide) (by decide) ?_
    refine lv_iconst (v := 0) hx hb dX4_leastActivity_36 (by decide) ?_
    exact W.iret (v := 0) hx hb hr (fun t ht hW => ⟨⟨_, (), rfl, (by first | rfl), trivial⟩, hS.F ht⟩) hS.2.2 dX4_leastActivity_37
  · refine lv_tableOut (tgt := 36) hx hb dX4_leastActivity_1 (by decide) (by decide) ?_
    refine lv_iconst (v := 0) hx hb dX4_leastActivity_36 (by decide) ?_
    exact W.iret (v := 0) hx hb hr (fun t ht hW => ⟨⟨_, (), rfl, (by first | rfl), trivial⟩, hS.F ht⟩) hS.2.2 dX4_leastActivity_37
  · refine lv_tableIn (tgt := 28) hx hb dX4_leastActivity_1 (by decide) (by decide) rfl (by decide) ?_
    refine lv_iconst (v := 4) hx hb dX4_leastActivity_28 (by decide) ?_
    exact W.iret (v := 4) hx hb hr (fun t ht hW => ⟨⟨_, (), rfl, (by first | rfl), trivial⟩, hS.F ht⟩) hS.2.2 dX4_leastActivity_29
  · refine lv_tableIn (tgt := 30) hx hb dX4_leastActivity_1 (by decide) (by decide) rfl (by decide) ?_
    refine lv_bipush (v := 25) hx hb dX4_leastActivity_30 (by decide) ?_
    exact W.iret (v := 25) hx hb hr (fun t ht hW => ⟨⟨_, (), rfl, (by first | rfl), trivial⟩, hS.F ht⟩) hS.2.2 dX4_leastActivity_32
  · refine lv_tableIn (tgt := 33) hx hb dX4_leastActivity_1 (by decide) (by decide) rfl (by decide) ?_
    refine lv_bipush (v := 80) hx hb dX4_leastActivity_33 (by decide) ?_
    exact W.iret (v := 80) hx hb hr (fun t ht hW => ⟨⟨_, (), rfl, (by first | rfl), trivial⟩, hS.F ht⟩) hS.2.2 dX4_leastActivity_35
set_option maxHeartbeats 4000000 in
set_option maxRecDepth 100000 in
theorem kX4_greatestActivity (l : Launch) (E : ev_T) (ln : Nat) (h1 : 1 ≤ ln) (h2 : ln ≤ 5) : Met l yX4_greatestActivity wsX4_greatestActivity ({ frames := 0, cells := 0, slots := 0, locals := 0 } : Room) (va_Pc [.int (nI ln)] (fun _ => True)) (va_Qi (fun (r : Int32) (_ : Unit) => r = nI (gtA ln)) (fun _ _ => True) (fun _ : Nat => False)) 0 0 (fun _ : Nat => False) := by
  refine Met.ofW (cc := cX4_greatestActivity) (maxL := 1) (ret := (some .int)) (by decide) rfl ?_
  intro p e s m args below meth c s₁ B hml hv
  obtain ⟨rfl, -⟩ := hv
  have hx := B.exec
  have hb := B.bytes
  have hr := B.returns
  have hts := atoms_spec (ws := wsX4_greatestActivity) B.pre
  have hown : s.vm.findClass RX4 = some m.cls := findClass_of_methodNamed B.named
  have hlocks := B.notSynchronized
  refine mz_start (fun H locs hH hL => ?_)
  have hS : va_S (fun _ : Nat => False) s.heap H locs := by rw [hH, hL]; exact va_S.rf
  have kc263 := hts (.constant RX4 263 (2147483647)) (by decide +kernel)
  have hl := lv_entry ([.int (nI ln)]) (n := 1) (Nat.le_of_ble_eq_true rfl)
  rw [lg_entry_eq]
  generalize (lg_sl ([.int (nI ln)]) ++ List.replicate (1 - (lg_sl ([.int (nI ln)])).length) Slot.unset).toArray = ls at hl ⊢
  have hl : lv_has ls 1 [(0, .int (nI ln))] := hl
  refine lv_iload_n hx hb dX4_greatestActivity_0 rfl (lv_at hl 0 rfl) ?_
  rcases (show ln = 1 ∨ ln = 2 ∨ ln = 3 ∨ ln = 4 ∨ ln = 5 from by omega) with rfl | rfl | rfl | rfl | rfl
  · refine lv_tableIn (tgt := 32) hx hb dX4_greatestActivity_1 (by decide) (by decide) rfl (by decide) ?_
    refine lv_iconst (v := 1) hx hb dX4_greatestActivity_32 (by decide) ?_
    exact W.iret (v := 1) hx hb hr (fun t ht hW => ⟨⟨_, (), rfl, (by first | rfl), trivial⟩, hS.F ht⟩) hS.2.2 dX4_greatestActivity_33
  · refine lv_tableIn (tgt := 34) hx hb dX4_greatestActivity_1 (by decide) (by decide) rfl (by decide) ?_
    refine lv_bipush (v := 9) hx hb dX4_greatestActivity_34 (by decide) ?_
    exact W.iret (v := 9) hx hb hr (fun t ht hW => ⟨⟨_, (), rfl, (by first | rfl), trivial⟩, hS.F ht⟩) hS.2.2 dX4_greatestActivity_36
  · refine lv_tableIn (tgt := 37) hx hb dX4_greatestActivity_1 (by decide) (by decide) rfl (by decide) ?_
    refine lv_bipush (v := 40) hx hb dX4_greatestActivity_37 (by decide) ?_
    exact W.iret (v := 40) hx hb hr (fun t ht hW => ⟨⟨_, (), rfl, (by first | rfl), trivial⟩, hS.F ht⟩) hS.2.2 dX4_greatestActivity_39
  · refine lv_tableIn (tgt := 40) hx hb dX4_greatestActivity_1 (by decide) (by decide) rfl (by decide) ?_
    refine lv_bipush (v := 120) hx hb dX4_greatestActivity_40 (by decide) ?_
    exact W.iret (v := 120) hx hb hr (fun t ht hW => ⟨⟨_, (), rfl, (by first | rfl), trivial⟩, hS.F ht⟩) hS.2.2 dX4_greatestActivity_42
  · refine lv_tableOut (tgt := 43) hx hb dX4_greatestActivity_1 (by decide) (by decide) ?_
    refine lv_ldcw hx hb hown kc263 dX4_greatestActivity_43 ?_
    exact W.iret (v := 2147483647) hx hb hr (fun t ht hW => ⟨⟨_, (), rfl, (by first | rfl), trivial⟩, hS.F ht⟩) hS.2.2 dX4_greatestActivity_46
