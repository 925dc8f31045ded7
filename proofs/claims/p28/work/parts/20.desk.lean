/-! the desk: its cells by one address table, its arrays and weathers by one table S of functions -/
def rfA (ad : Nat → Nat) : Nat → Option Nat := fun r => some (ad (2 + 2 * r))
def oR (ad : Nat → Nat) (S : Nat → Nat → Int32) (k : Nat) : Nat × va_E := (ad k, .inr (2, [.ref (ad (k + 1)), .int (S k 1), .int (S k 2), .int (S k 3), .int (S k 4), .int (S k 5)]))
def aR (E : ev_T) (ad : Nat → Nat) (S : Nat → Nat → Int32) (k n : Nat) : Nat × va_E := (ad k, .inl (E.2.1 0, n, .inl (S k)))
def dC (E : ev_T) (ad : Nat → Nat) (S : Nat → Nat → Int32) (zs : Nat → Nat) (rn dy bn cn tn : Nat) : va_W :=
  [(ad 0, .inr (4, [.ref (ad 1), .ref (ad 14), .ref (ad 16), .ref (ad 19), .ref (ad 24), .int (nI rn), .int (nI dy)])), (ad 1, .inl (E.2.1 1, 6, .inr (.inr (.inr (.inr (rfA ad)))))),
   oR ad S 2, aR E ad S 3 60, oR ad S 4, aR E ad S 5 60, oR ad S 6, aR E ad S 7 60, oR ad S 8, aR E ad S 9 60, oR ad S 10, aR E ad S 11 60, oR ad S 12, aR E ad S 13 60, oR ad S 14, aR E ad S 15 60,
   (ad 16, .inr (1, [.ref (ad 17), .ref (ad 18), .int (nI bn)])), (ad 17, .inl (E.2.1 0, 61, .inl (nF zs))), aR E ad S 18 1098,
   (ad 19, .inr (0, [.ref (ad 20), .ref (ad 21), .ref (ad 22), .ref (ad 23), .int (nI cn)])), aR E ad S 20 200, aR E ad S 21 200, aR E ad S 22 200, aR E ad S 23 366,
   (ad 24, .inr (3, [.ref (ad 25), .ref (ad 26), .int (nI tn)])), aR E ad S 25 20, aR E ad S 26 20]
theorem isIn_lo {v : Int32} (n : Nat) {h : Int32} (c : v < 0) : isInF v 0 h = 0 := if_pos c
theorem isIn_hi {v : Int32} (n : Nat) {h : Int32} (hh : h = nI n - 1) (hn : n < 2147483648) (c : ¬ v < nI n) : isInF v 0 h = 0 := by
  rw [isIn_n n hh hn]; unfold inF
  by_cases h0 : v < 0
  · rw [if_pos h0]
  · rw [if_neg h0, if_neg c]
theorem isIn_ok {v : Int32} (n : Nat) {h : Int32} (hh : h = nI n - 1) (hn : n < 2147483648) (c0 : ¬ v < 0) (c : v < nI n) : ¬ isInF v 0 h = 0 := by
  rw [isIn_n n hh hn]; unfold inF
  rw [if_neg c0, if_pos c]; decide
theorem i10f : ((1 : Int32) = 0) = False := by decide
theorem i_lt4 {x : Int32} : x < 4 ↔ ¬ 3 < x := by rw [Int32.lt_iff_toInt_lt, Int32.lt_iff_toInt_lt, show (4 : Int32).toInt = 4 from by decide, show (3 : Int32).toInt = 3 from by decide]; omega
theorem i_lt4n {x : Int32} : ¬ x < 4 ↔ 3 < x := by rw [Int32.lt_iff_toInt_lt, Int32.lt_iff_toInt_lt, show (4 : Int32).toInt = 4 from by decide, show (3 : Int32).toInt = 3 from by decide]; omega
theorem fullF_yes {c b : Nat} (h : ¬ fullF c b = 0) : ¬ c < b := fun q => h (if_pos q)
theorem fullF_no {c b : Nat} (h : fullF c b = 0) : c < b := by
  unfold fullF at h
  by_cases q : c < b
  · exact q
  · rw [if_neg q] at h; exact absurd h (by decide)
def exm (a b c : Nat) : Nat → Nat
  | 1 => a
  | 2 => b
  | _ => c
set_option maxHeartbeats 4000000 in
set_option maxRecDepth 100000 in
theorem kX4_checkRegion (l : Launch) (hlt : l.stackTraces = false) (E : ev_T) (h0 : Nat) (h1 : Nat) (h2 : Nat) (h3 : Nat) (h4 : Nat) (h5 : Nat) (rn : Nat) (dy : Nat) (xr : Int32) (hrn : rn ≤ 6) : vx_Met l yX4_checkRegion wsX4_checkRegion ({ frames := 6, cells := 1, slots := 6, locals := 82 } : Room) (va_Pc [.ref h0, .int xr] (pr_X E [(h0, .inr (4, [.ref h1, .ref h2, .ref h3, .ref h4, .ref h5, .int (nI rn), .int (nI dy)]))])) (va_Qv (fun (_ : Unit) => ¬ inF xr rn = 0) (fun _ _ => True) (fun _ : Nat => False)) (vx_X (fun (k : Nat) => k = 3 ∧ inF xr rn = 0) (fun Ex k _ => Ex = exn k) (fun _ : Nat => False)) 1 6 (fun _ : Nat => False) := by
  refine vx_ofW (cc := cX4_checkRegion) (maxL := 2) (ret := none) (by decide) rfl ?_
  intro p e s m args below meth c s₁ B hml htb hv
  obtain ⟨rfl, hP, hE, hU9⟩ := hv
  have hx := B.exec
  have hb := B.bytes
  have hr := B.returns
  have hts := atoms_spec (ws := wsX4_checkRegion) B.pre
  have hown : s.vm.findClass RX4 = some m.cls := findClass_of_methodNamed B.named
  have hlocks := B.notSynchronized
  refine mz_start (fun H locs hH hL => ?_)
  have hS : va_S (fun _ : Nat => False) s.heap H locs := by rw [hH, hL]; exact va_S.rf
  have xk_101 := hts (.classLink RX4 101 "java/lang/IndexOutOfBoundsException") (by decide +kernel)
  have xi_101 := hts (.initialized "java/lang/IndexOutOfBoundsException") (by decide +kernel)
  have xa_105 : ∀ w ∈ vx_atS RX4 105 "java/lang/IndexOutOfBoundsException" ["java/lang/RuntimeException", "java/lang/Exception"], w.before _ s = true := ev_at hE (fun w h => hts w ((by decide +kernel : ∀ w ∈ (vx_atS RX4 105 "java/lang/IndexOutOfBoundsException" ["java/lang/RuntimeException", "java/lang/Exception"]).filter goodWord, w ∈ wsX4_checkRegion) w h)) (by decide +kernel)
  have xg_105 : ∀ w ∈ Cond.classLink RX4 101 "java/lang/IndexOutOfBoundsException" :: Cond.initialized "java/lang/IndexOutOfBoundsException" :: vx_atS RX4 105 "java/lang/IndexOutOfBoundsException" ["java/lang/RuntimeException", "java/lang/Exception"], vx_ot w = true := by decide +kernel
  have f_41 := hts (.fieldLink RX4 41 "AvalancheDesk" "regionCount" "I") (by decide +kernel)
  have inX4 : ∀ w ∈ wsX40, w ∈ wsX4_checkRegion := by decide +kernel
  have hl := lv_entry ([.ref h0, .int xr]) (n := 2) (Nat.le_of_ble_eq_true rfl)
  rw [lg_entry_eq]
  generalize (lg_sl ([.ref h0, .int xr]) ++ List.replicate (2 - (lg_sl ([.ref h0, .int xr])).length) Slot.unset).toArray = ls at hl ⊢
  have hl : lv_has ls 2 [(0, .ref h0), (1, .int xr)] := hl
  have hP : va_P E.1 vwCl [(h0, .inr (4, [.ref h1, .ref h2, .ref h3, .ref h4, .ref h5, .int (nI rn), .int (nI dy)]))] H := by rw [hH]; exact hP
  refine lv_iload_n hx hb dX4_checkRegion_0 rfl (lv_at hl 1 rfl) ?_
  refine lv_if_lt (tgt := 12) hx hb dX4_checkRegion_1 (by decide) (fun c_1 => ?_) (fun c_1 => ?_)
  · exact vx_throwS (own := RX4) (cls := "java/lang/IndexOutOfBoundsException") (text := "no such region") (names := ["java/lang/RuntimeException", "java/lang/Exception"]) (ik := 101) (is := 241) (ic := 105) (sa := E.2.2 241) hx hb hlt hown (by decide +kernel) (by decide +kernel) xk_101 xi_101 (hE.2.2.1 (241, "no such region") (by decide +kernel)) xa_105 xg_105 hU9.1 hU9.2 hS (hl.1.trans hml.symm) dX4_checkRegion_12 dX4_checkRegion_15 dX4_checkRegion_16 dX4_checkRegion_18 dX4_checkRegion_21 (fun x9 hx9 => (htb x9 hx9).elim) (Nat.le_of_ble_eq_true rfl) (Nat.le_of_ble_eq_true rfl) (by first | exact Nat.le_of_ble_eq_true rfl | (show _ ≤ 1; omega)) (by first | exact Nat.le_of_ble_eq_true rfl | (show _ ≤ 6; omega)) hlocks (fun t hal h1 h2 => ⟨3, ⟨rfl, by unfold inF; first | rw [if_pos c_1] | rw [if_neg c_1, if_neg c_9]⟩, rfl, hS.Ft h1 h2⟩) hS.2.2 (by omega) (by omega)
  · refine lv_iload_n hx hb dX4_checkRegion_4 rfl (lv_at hl 1 rfl) ?_
    refine lv_aload_n hx hb dX4_checkRegion_5 rfl (lv_at hl 0 rfl) ?_
    refine va_get (D := E.1) (ci := 4) (v := .int (nI rn)) (C := RX4) (T := TX4) (N := 7) hx hb hts inX4 hown hE.1 hP 0 rfl rfl 5 (by decide) f_41 (fun _ h9 => h9) rfl dX4_checkRegion_6 ?_
    refine mz_lt (tgt := 22) hx hb dX4_checkRegion_9 (by decide) (fun c_9 => ?_) (fun c_9 => ?_)
    · refine W.widen (k := 1) (n := 6) (by omega) (by omega) ?_
      refine vx_ret ?_
      exact W.vret hx hb hr (fun t ht hW => ⟨⟨(), rfl, (by unfold inF; rw [if_neg c_1, if_pos c_9]; decide), trivial⟩, hS.F ht⟩) hS.2.2 dX4_checkRegion_22
    · exact vx_throwS (own := RX4) (cls := "java/lang/IndexOutOfBoundsException") (text := "no such region") (names := ["java/lang/RuntimeException", "java/lang/Exception"]) (ik := 101) (is := 241) (ic := 105) (sa := E.2.2 241) hx hb hlt hown (by decide +kernel) (by decide +kernel) xk_101 xi_101 (hE.2.2.1 (241, "no such region") (by decide +kernel)) xa_105 xg_105 hU9.1 hU9.2 hS (hl.1.trans hml.symm) dX4_checkRegion_12 dX4_checkRegion_15 dX4_checkRegion_16 dX4_checkRegion_18 dX4_checkRegion_21 (fun x9 hx9 => (htb x9 hx9).elim) (Nat.le_of_ble_eq_true rfl) (Nat.le_of_ble_eq_true rfl) (by first | exact Nat.le_of_ble_eq_true rfl | (show _ ≤ 1; omega)) (by first | exact Nat.le_of_ble_eq_true rfl | (show _ ≤ 6; omega)) hlocks (fun t hal h1 h2 => ⟨3, ⟨rfl, by unfold inF; first | rw [if_pos c_1] | rw [if_neg c_1, if_neg c_9]⟩, rfl, hS.Ft h1 h2⟩) hS.2.2 (by omega) (by omega)
set_option maxHeartbeats 4000000 in
set_option maxRecDepth 100000 in
theorem kX4_checkSector (l : Launch) (hlt : l.stackTraces = false) (E : ev_T) (xs : Int32) : vx_Met l yX4_checkSector wsX4_checkSector ({ frames := 6, cells := 1, slots := 6, locals := 82 } : Room) (va_Pc [.int xs] (pr_X E [])) (va_Qv (fun (_ : Unit) => ¬ isInF xs 0 11 = 0) (fun _ _ => True) (fun _ : Nat => False)) (vx_X (fun (k : Nat) => k = 3 ∧ isInF xs 0 11 = 0) (fun Ex k _ => Ex = exn k) (fun _ : Nat => False)) 1 6 (fun _ : Nat => False) := by
  refine vx_ofW (cc := cX4_checkSector) (maxL := 1) (ret := none) (by decide) rfl ?_
  intro p e s m args below meth c s₁ B hml htb hv
  obtain ⟨rfl, hP, hE, hU9⟩ := hv
  have hx := B.exec
  have hb := B.bytes
  have hr := B.returns
  have hts := atoms_spec (ws := wsX4_checkSector) B.pre
  have hown : s.vm.findClass RX4 = some m.cls := findClass_of_methodNamed B.named
  have hlocks := B.notSynchronized
  refine mz_start (fun H locs hH hL => ?_)
  have hS : va_S (fun _ : Nat => False) s.heap H locs := by rw [hH, hL]; exact va_S.rf
  have xk_101 := hts (.classLink RX4 101 "java/lang/IndexOutOfBoundsException") (by decide +kernel)
  have xi_101 := hts (.initialized "java/lang/IndexOutOfBoundsException") (by decide +kernel)
  have xa_105 : ∀ w ∈ vx_atS RX4 105 "java/lang/IndexOutOfBoundsException" ["java/lang/RuntimeException", "java/lang/Exception"], w.before _ s = true := ev_at hE (fun w h => hts w ((by decide +kernel : ∀ w ∈ (vx_atS RX4 105 "java/lang/IndexOutOfBoundsException" ["java/lang/RuntimeException", "java/lang/Exception"]).filter goodWord, w ∈ wsX4_checkSector) w h)) (by decide +kernel)
  have xg_105 : ∀ w ∈ Cond.classLink RX4 101 "java/lang/IndexOutOfBoundsException" :: Cond.initialized "java/lang/IndexOutOfBoundsException" :: vx_atS RX4 105 "java/lang/IndexOutOfBoundsException" ["java/lang/RuntimeException", "java/lang/Exception"], vx_ot w = true := by decide +kernel
  have hl := lv_entry ([.int xs]) (n := 1) (Nat.le_of_ble_eq_true rfl)
  rw [lg_entry_eq]
  generalize (lg_sl ([.int xs]) ++ List.replicate (1 - (lg_sl ([.int xs])).length) Slot.unset).toArray = ls at hl ⊢
  have hl : lv_has ls 1 [(0, .int xs)] := hl
  have hP : va_P E.1 vwCl [] H := by rw [hH]; exact hP
  refine lv_iload_n hx hb dX4_checkSector_0 rfl (lv_at hl 0 rfl) ?_
  refine lv_if_lt (tgt := 10) hx hb dX4_checkSector_1 (by decide) (fun c_1 => ?_) (fun c_1 => ?_)
  · exact vx_throwS (own := RX4) (cls := "java/lang/IndexOutOfBoundsException") (text := "no such sector") (names := ["java/lang/RuntimeException", "java/lang/Exception"]) (ik := 101) (is := 243) (ic := 105) (sa := E.2.2 243) hx hb hlt hown (by decide +kernel) (by decide +kernel) xk_101 xi_101 (hE.2.2.1 (243, "no such sector") (by decide +kernel)) xa_105 xg_105 hU9.1 hU9.2 hS (hl.1.trans hml.symm) dX4_checkSector_10 dX4_checkSector_13 dX4_checkSector_14 dX4_checkSector_16 dX4_checkSector_19 (fun x9 hx9 => (htb x9 hx9).elim) (Nat.le_of_ble_eq_true rfl) (Nat.le_of_ble_eq_true rfl) (by first | exact Nat.le_of_ble_eq_true rfl | (show _ ≤ 1; omega)) (by first | exact Nat.le_of_ble_eq_true rfl | (show _ ≤ 6; omega)) hlocks (fun t hal h1 h2 => ⟨3, ⟨rfl, by first | exact isIn_lo 12 c_1 | exact isIn_hi 12 (by decide) (by decide) c_7⟩, rfl, hS.Ft h1 h2⟩) hS.2.2 (by omega) (by omega)
  · refine lv_iload_n hx hb dX4_checkSector_4 rfl (lv_at hl 0 rfl) ?_
    refine lv_bipush (v := 12) hx hb dX4_checkSector_5 (by decide) ?_
    refine mz_lt (tgt := 20) hx hb dX4_checkSector_7 (by decide) (fun c_7 => ?_) (fun c_7 => ?_)
    · refine W.widen (k := 1) (n := 6) (by omega) (by omega) ?_
      refine vx_ret ?_
      exact W.vret hx hb hr (fun t ht hW => ⟨⟨(), rfl, (isIn_ok 12 (by decide) (by decide) c_1 c_7), trivial⟩, hS.F ht⟩) hS.2.2 dX4_checkSector_20
    · exact vx_throwS (own := RX4) (cls := "java/lang/IndexOutOfBoundsException") (text := "no such sector") (names := ["java/lang/RuntimeException", "java/lang/Exception"]) (ik := 101) (is := 243) (ic := 105) (sa := E.2.2 243) hx hb hlt hown (by decide +kernel) (by decide +kernel) xk_101 xi_101 (hE.2.2.1 (243, "no such sector") (by decide +kernel)) xa_105 xg_105 hU9.1 hU9.2 hS (hl.1.trans hml.symm) dX4_checkSector_10 dX4_checkSector_13 dX4_checkSector_14 dX4_checkSector_16 dX4_checkSector_19 (fun x9 hx9 => (htb x9 hx9).elim) (Nat.le_of_ble_eq_true rfl) (Nat.le_of_ble_eq_true rfl) (by first | exact Nat.le_of_ble_eq_true rfl | (show _ ≤ 1; omega)) (by first | exact Nat.le_of_ble_eq_true rfl | (show _ ≤ 6; omega)) hlocks (fun t hal h1 h2 => ⟨3, ⟨rfl, by first | exact isIn_lo 12 c_1 | exact isIn_hi 12 (by decide) (by decide) c_7⟩, rfl, hS.Ft h1 h2⟩) hS.2.2 (by omega) (by omega)
set_option maxHeartbeats 4000000 in
set_option maxRecDepth 100000 in
theorem kX4_checkNumber (l : Launch) (hlt : l.stackTraces = false) (E : ev_T) (xw : Int32) : vx_Met l yX4_checkNumber wsX4_checkNumber ({ frames := 6, cells := 1, slots := 6, locals := 82 } : Room) (va_Pc [.int xw] (pr_X E [])) (va_Qv (fun (_ : Unit) => ¬ isInF xw 0 4 = 0) (fun _ _ => True) (fun _ : Nat => False)) (vx_X (fun (k : Nat) => k = 3 ∧ isInF xw 0 4 = 0) (fun Ex k _ => Ex = exn k) (fun _ : Nat => False)) 1 6 (fun _ : Nat => False) := by
  refine vx_ofW (cc := cX4_checkNumber) (maxL := 1) (ret := none) (by decide) rfl ?_
  intro p e s m args below meth c s₁ B hml htb hv
  obtain ⟨rfl, hP, hE, hU9⟩ := hv
  have hx := B.exec
  have hb := B.bytes
  have hr := B.returns
  have hts := atoms_spec (ws := wsX4_checkNumber) B.pre
  have hown : s.vm.findClass RX4 = some m.cls := findClass_of_methodNamed B.named
  have hlocks := B.notSynchronized
  refine mz_start (fun H locs hH hL => ?_)
  have hS : va_S (fun _ : Nat => False) s.heap H locs := by rw [hH, hL]; exact va_S.rf
  have xk_101 := hts (.classLink RX4 101 "java/lang/IndexOutOfBoundsException") (by decide +kernel)
  have xi_101 := hts (.initialized "java/lang/IndexOutOfBoundsException") (by decide +kernel)
  have xa_105 : ∀ w ∈ vx_atS RX4 105 "java/lang/IndexOutOfBoundsException" ["java/lang/RuntimeException", "java/lang/Exception"], w.before _ s = true := ev_at hE (fun w h => hts w ((by decide +kernel : ∀ w ∈ (vx_atS RX4 105 "java/lang/IndexOutOfBoundsException" ["java/lang/RuntimeException", "java/lang/Exception"]).filter goodWord, w ∈ wsX4_checkNumber) w h)) (by decide +kernel)
  have xg_105 : ∀ w ∈ Cond.classLink RX4 101 "java/lang/IndexOutOfBoundsException" :: Cond.initialized "java/lang/IndexOutOfBoundsException" :: vx_atS RX4 105 "java/lang/IndexOutOfBoundsException" ["java/lang/RuntimeException", "java/lang/Exception"], vx_ot w = true := by decide +kernel
  have hl := lv_entry ([.int xw]) (n := 1) (Nat.le_of_ble_eq_true rfl)
  rw [lg_entry_eq]
  generalize (lg_sl ([.int xw]) ++ List.replicate (1 - (lg_sl ([.int xw])).length) Slot.unset).toArray = ls at hl ⊢
  have hl : lv_has ls 1 [(0, .int xw)] := hl
  have hP : va_P E.1 vwCl [] H := by rw [hH]; exact hP
  refine lv_iload_n hx hb dX4_checkNumber_0 rfl (lv_at hl 0 rfl) ?_
  refine lv_if_lt (tgt := 9) hx hb dX4_checkNumber_1 (by decide) (fun c_1 => ?_) (fun c_1 => ?_)
  · exact vx_throwS (own := RX4) (cls := "java/lang/IndexOutOfBoundsException") (text := "a sector has no such number") (names := ["java/lang/RuntimeException", "java/lang/Exception"]) (ik := 101) (is := 245) (ic := 105) (sa := E.2.2 245) hx hb hlt hown (by decide +kernel) (by decide +kernel) xk_101 xi_101 (hE.2.2.1 (245, "a sector has no such number") (by decide +kernel)) xa_105 xg_105 hU9.1 hU9.2 hS (hl.1.trans hml.symm) dX4_checkNumber_9 dX4_checkNumber_12 dX4_checkNumber_13 dX4_checkNumber_15 dX4_checkNumber_18 (fun x9 hx9 => (htb x9 hx9).elim) (Nat.le_of_ble_eq_true rfl) (Nat.le_of_ble_eq_true rfl) (by first | exact Nat.le_of_ble_eq_true rfl | (show _ ≤ 1; omega)) (by first | exact Nat.le_of_ble_eq_true rfl | (show _ ≤ 6; omega)) hlocks (fun t hal h1 h2 => ⟨3, ⟨rfl, by first | exact isIn_lo 5 c_1 | exact isIn_hi 5 (by decide) (by decide) c_6⟩, rfl, hS.Ft h1 h2⟩) hS.2.2 (by omega) (by omega)
  · refine lv_iload_n hx hb dX4_checkNumber_4 rfl (lv_at hl 0 rfl) ?_
    refine lv_iconst (v := 5) hx hb dX4_checkNumber_5 (by decide) ?_
    refine mz_lt (tgt := 19) hx hb dX4_checkNumber_6 (by decide) (fun c_6 => ?_) (fun c_6 => ?_)
    · refine W.widen (k := 1) (n := 6) (by omega) (by omega) ?_
      refine vx_ret ?_
      exact W.vret hx hb hr (fun t ht hW => ⟨⟨(), rfl, (isIn_ok 5 (by decide) (by decide) c_1 c_6), trivial⟩, hS.F ht⟩) hS.2.2 dX4_checkNumber_19
    · exact vx_throwS (own := RX4) (cls := "java/lang/IndexOutOfBoundsException") (text := "a sector has no such number") (names := ["java/lang/RuntimeException", "java/lang/Exception"]) (ik := 101) (is := 245) (ic := 105) (sa := E.2.2 245) hx hb hlt hown (by decide +kernel) (by decide +kernel) xk_101 xi_101 (hE.2.2.1 (245, "a sector has no such number") (by decide +kernel)) xa_105 xg_105 hU9.1 hU9.2 hS (hl.1.trans hml.symm) dX4_checkNumber_9 dX4_checkNumber_12 dX4_checkNumber_13 dX4_checkNumber_15 dX4_checkNumber_18 (fun x9 hx9 => (htb x9 hx9).elim) (Nat.le_of_ble_eq_true rfl) (Nat.le_of_ble_eq_true rfl) (by first | exact Nat.le_of_ble_eq_true rfl | (show _ ≤ 1; omega)) (by first | exact Nat.le_of_ble_eq_true rfl | (show _ ≤ 6; omega)) hlocks (fun t hal h1 h2 => ⟨3, ⟨rfl, by first | exact isIn_lo 5 c_1 | exact isIn_hi 5 (by decide) (by decide) c_6⟩, rfl, hS.Ft h1 h2⟩) hS.2.2 (by omega) (by omega)
set_option maxHeartbeats 4000000 in
set_option maxRecDepth 100000 in
theorem kX4_checkWeather (l : Launch) (hlt : l.stackTraces = false) (E : ev_T) (xn : Int32) (xw : Int32) (xf : Int32) (xt : Int32) : vx_Met l yX4_checkWeather wsX4_checkWeather ({ frames := 6, cells := 1, slots := 6, locals := 82 } : Room) (va_Pc [.int xn, .int xw, .int xf, .int xt] (pr_X E [])) (va_Qv (fun (_ : Unit) => ¬ wthF xn xw xf xt = 0) (fun _ _ => True) (fun _ : Nat => False)) (vx_X (fun (k : Nat) => k = 2 ∧ wthF xn xw xf xt = 0) (fun Ex k _ => Ex = exn k) (fun _ : Nat => False)) 1 6 (fun _ : Nat => False) := by
  refine vx_ofW (cc := cX4_checkWeather) (maxL := 4) (ret := none) (by decide) rfl ?_
  intro p e s m args below meth c s₁ B hml htb hv
  obtain ⟨rfl, hP, hE, hU9⟩ := hv
  have hx := B.exec
  have hb := B.bytes
  have hr := B.returns
  have hts := atoms_spec (ws := wsX4_checkWeather) B.pre
  have hown : s.vm.findClass RX4 = some m.cls := findClass_of_methodNamed B.named
  have hlocks := B.notSynchronized
  refine mz_start (fun H locs hH hL => ?_)
  have hS : va_S (fun _ : Nat => False) s.heap H locs := by rw [hH, hL]; exact va_S.rf
  have xk_92 := hts (.classLink RX4 92 "java/lang/IllegalArgumentException") (by decide +kernel)
  have xi_92 := hts (.initialized "java/lang/IllegalArgumentException") (by decide +kernel)
  have xa_96 : ∀ w ∈ vx_atS RX4 96 "java/lang/IllegalArgumentException" ["java/lang/RuntimeException", "java/lang/Exception"], w.before _ s = true := ev_at hE (fun w h => hts w ((by decide +kernel : ∀ w ∈ (vx_atS RX4 96 "java/lang/IllegalArgumentException" ["java/lang/RuntimeException", "java/lang/Exception"]).filter goodWord, w ∈ wsX4_checkWeather) w h)) (by decide +kernel)
  have xg_96 : ∀ w ∈ Cond.classLink RX4 92 "java/lang/IllegalArgumentException" :: Cond.initialized "java/lang/IllegalArgumentException" :: vx_atS RX4 96 "java/lang/IllegalArgumentException" ["java/lang/RuntimeException", "java/lang/Exception"], vx_ot w = true := by decide +kernel
  have hl := lv_entry ([.int xn, .int xw, .int xf, .int xt]) (n := 4) (Nat.le_of_ble_eq_true rfl)
  rw [lg_entry_eq]
  generalize (lg_sl ([.int xn, .int xw, .int xf, .int xt]) ++ List.replicate (4 - (lg_sl ([.int xn, .int xw, .int xf, .int xt])).length) Slot.unset).toArray = ls at hl ⊢
  have hl : lv_has ls 4 [(0, .int xn), (1, .int xw), (2, .int xf), (3, .int xt)] := hl
  have hP : va_P E.1 vwCl [] H := by rw [hH]; exact hP
  refine lv_iload_n hx hb dX4_checkWeather_0 rfl (lv_at hl 0 rfl) ?_
  refine lv_if_lt (tgt := 11) hx hb dX4_checkWeather_1 (by decide) (fun c_1 => ?_) (fun c_1 => ?_)
  · exact vx_throwS (own := RX4) (cls := "java/lang/IllegalArgumentException") (text := "the snow is not 0 to 150") (names := ["java/lang/RuntimeException", "java/lang/Exception"]) (ik := 92) (is := 247) (ic := 96) (sa := E.2.2 247) hx hb hlt hown (by decide +kernel) (by decide +kernel) xk_92 xi_92 (hE.2.2.1 (247, "the snow is not 0 to 150") (by decide +kernel)) xa_96 xg_96 hU9.1 hU9.2 hS (hl.1.trans hml.symm) dX4_checkWeather_11 dX4_checkWeather_14 dX4_checkWeather_15 dX4_checkWeather_17 dX4_checkWeather_20 (fun x9 hx9 => (htb x9 hx9).elim) (Nat.le_of_ble_eq_true rfl) (Nat.le_of_ble_eq_true rfl) (by first | exact Nat.le_of_ble_eq_true rfl | (show _ ≤ 1; omega)) (by first | exact Nat.le_of_ble_eq_true rfl | (show _ ≤ 6; omega)) hlocks (fun t hal h1 h2 => ⟨2, ⟨rfl, by first | (simp only [wthF, isInF, if_pos c_1, eq_self, if_true, i10f, if_false]; done) | (try unfold wthF; try unfold isInF; simp only [if_pos c_1, eq_self, if_true, i10f, if_false]; done) | (try unfold wthF; try unfold isInF; rfl) | rfl⟩, rfl, hS.Ft h1 h2⟩) hS.2.2 (by omega) (by omega)
  · refine lv_iload_n hx hb dX4_checkWeather_4 rfl (lv_at hl 0 rfl) ?_
    refine lv_sipush (v := 150) hx hb dX4_checkWeather_5 (by decide) ?_
    refine mz_le (tgt := 21) hx hb dX4_checkWeather_8 (by decide) (fun c_8 => ?_) (fun c_8 => ?_)
    · refine lv_iload_n hx hb dX4_checkWeather_21 rfl (lv_at hl 1 rfl) ?_
      refine lv_if_lt (tgt := 31) hx hb dX4_checkWeather_22 (by decide) (fun c_22 => ?_) (fun c_22 => ?_)
      · exact vx_throwS (own := RX4) (cls := "java/lang/IllegalArgumentException") (text := "the wind is not 0 to 120") (names := ["java/lang/RuntimeException", "java/lang/Exception"]) (ik := 92) (is := 249) (ic := 96) (sa := E.2.2 249) hx hb hlt hown (by decide +kernel) (by decide +kernel) xk_92 xi_92 (hE.2.2.1 (249, "the wind is not 0 to 120") (by decide +kernel)) xa_96 xg_96 hU9.1 hU9.2 hS (hl.1.trans hml.symm) dX4_checkWeather_31 dX4_checkWeather_34 dX4_checkWeather_35 dX4_checkWeather_37 dX4_checkWeather_40 (fun x9 hx9 => (htb x9 hx9).elim) (Nat.le_of_ble_eq_true rfl) (Nat.le_of_ble_eq_true rfl) (by first | exact Nat.le_of_ble_eq_true rfl | (show _ ≤ 1; omega)) (by first | exact Nat.le_of_ble_eq_true rfl | (show _ ≤ 6; omega)) hlocks (fun t hal h1 h2 => ⟨2, ⟨rfl, by first | (simp only [wthF, isInF, if_neg c_1, if_neg c_8, if_pos c_22, eq_self, if_true, i10f, if_false]; done) | (try unfold wthF; try unfold isInF; simp only [if_neg c_1, if_neg c_8, if_pos c_22, eq_self, if_true, i10f, if_false]; done) | (try unfold wthF; try unfold isInF; rfl) | rfl⟩, rfl, hS.Ft h1 h2⟩) hS.2.2 (by omega) (by omega)
      · refine lv_iload_n hx hb dX4_checkWeather_25 rfl (lv_at hl 1 rfl) ?_
        refine lv_bipush (v := 120) hx hb dX4_checkWeather_26 (by decide) ?_
        refine mz_le (tgt := 41) hx hb dX4_checkWeather_28 (by decide) (fun c_28 => ?_) (fun c_28 => ?_)
        · refine lv_iload_n hx hb dX4_checkWeather_41 rfl (lv_at hl 2 rfl) ?_
          refine lv_if_lt (tgt := 50) hx hb dX4_checkWeather_42 (by decide) (fun c_42 => ?_) (fun c_42 => ?_)
          · exact vx_throwS (own := RX4) (cls := "java/lang/IllegalArgumentException") (text := "from is not 0 to 3") (names := ["java/lang/RuntimeException", "java/lang/Exception"]) (ik := 92) (is := 251) (ic := 96) (sa := E.2.2 251) hx hb hlt hown (by decide +kernel) (by decide +kernel) xk_92 xi_92 (hE.2.2.1 (251, "from is not 0 to 3") (by decide +kernel)) xa_96 xg_96 hU9.1 hU9.2 hS (hl.1.trans hml.symm) dX4_checkWeather_50 dX4_checkWeather_53 dX4_checkWeather_54 dX4_checkWeather_56 dX4_checkWeather_59 (fun x9 hx9 => (htb x9 hx9).elim) (Nat.le_of_ble_eq_true rfl) (Nat.le_of_ble_eq_true rfl) (by first | exact Nat.le_of_ble_eq_true rfl | (show _ ≤ 1; omega)) (by first | exact Nat.le_of_ble_eq_true rfl | (show _ ≤ 6; omega)) hlocks (fun t hal h1 h2 => ⟨2, ⟨rfl, by first | (simp only [wthF, isInF, if_neg c_1, if_neg c_8, if_neg c_22, if_neg c_28, if_pos c_42, eq_self, if_true, i10f, if_false]; done) | (try unfold wthF; try unfold isInF; simp only [if_neg c_1, if_neg c_8, if_neg c_22, if_neg c_28, if_pos c_42, eq_self, if_true, i10f, if_false]; done) | (try unfold wthF; try unfold isInF; rfl) | rfl⟩, rfl, hS.Ft h1 h2⟩) hS.2.2 (by omega) (by omega)
          · refine lv_iload_n hx hb dX4_checkWeather_45 rfl (lv_at hl 2 rfl) ?_
            refine lv_iconst (v := 4) hx hb dX4_checkWeather_46 (by decide) ?_
            refine mz_lt (tgt := 60) hx hb dX4_checkWeather_47 (by decide) (fun c_47 => ?_) (fun c_47 => ?_)
            · have d_47 : ¬ 3 < xf := by first | exact i_lt4.mp c_47 | exact i_lt4n.mp c_47
              refine lv_iload_n hx hb dX4_checkWeather_60 rfl (lv_at hl 3 rfl) ?_
              refine lv_bipush (v := (-30)) hx hb dX4_checkWeather_61 (by decide) ?_
              refine mz_lt (tgt := 72) hx hb dX4_checkWeather_63 (by decide) (fun c_63 => ?_) (fun c_63 => ?_)
              · exact vx_throwS (own := RX4) (cls := "java/lang/IllegalArgumentException") (text := "the temperature is not -30 to 15") (names := ["java/lang/RuntimeException", "java/lang/Exception"]) (ik := 92) (is := 253) (ic := 96) (sa := E.2.2 253) hx hb hlt hown (by decide +kernel) (by decide +kernel) xk_92 xi_92 (hE.2.2.1 (253, "the temperature is not -30 to 15") (by decide +kernel)) xa_96 xg_96 hU9.1 hU9.2 hS (hl.1.trans hml.symm) dX4_checkWeather_72 dX4_checkWeather_75 dX4_checkWeather_76 dX4_checkWeather_78 dX4_checkWeather_81 (fun x9 hx9 => (htb x9 hx9).elim) (Nat.le_of_ble_eq_true rfl) (Nat.le_of_ble_eq_true rfl) (by first | exact Nat.le_of_ble_eq_true rfl | (show _ ≤ 1; omega)) (by first | exact Nat.le_of_ble_eq_true rfl | (show _ ≤ 6; omega)) hlocks (fun t hal h1 h2 => ⟨2, ⟨rfl, by first | (simp only [wthF, isInF, if_neg c_1, if_neg c_8, if_neg c_22, if_neg c_28, if_neg c_42, if_neg d_47, if_pos c_63, eq_self, if_true, i10f, if_false]; done) | (try unfold wthF; try unfold isInF; simp only [if_neg c_1, if_neg c_8, if_neg c_22, if_neg c_28, if_neg c_42, if_neg d_47, if_pos c_63, eq_self, if_true, i10f, if_false]; done) | (try unfold wthF; try unfold isInF; rfl) | rfl⟩, rfl, hS.Ft h1 h2⟩) hS.2.2 (by omega) (by omega)
              · refine lv_iload_n hx hb dX4_checkWeather_66 rfl (lv_at hl 3 rfl) ?_
                refine lv_bipush (v := 15) hx hb dX4_checkWeather_67 (by decide) ?_
                refine mz_le (tgt := 82) hx hb dX4_checkWeather_69 (by decide) (fun c_69 => ?_) (fun c_69 => ?_)
                · refine W.widen (k := 1) (n := 6) (by omega) (by omega) ?_
                  refine vx_ret ?_
                  exact W.vret hx hb hr (fun t ht hW => ⟨⟨(), rfl, (by simp only [wthF, isInF, if_neg c_1, if_neg c_8, if_neg c_22, if_neg c_28, if_neg c_42, if_neg d_47, if_neg c_63, if_neg c_69, eq_self, if_true, i10f, if_false]; decide), trivial⟩, hS.F ht⟩) hS.2.2 dX4_checkWeather_82
                · exact vx_throwS (own := RX4) (cls := "java/lang/IllegalArgumentException") (text := "the temperature is not -30 to 15") (names := ["java/lang/RuntimeException", "java/lang/Exception"]) (ik := 92) (is := 253) (ic := 96) (sa := E.2.2 253) hx hb hlt hown (by decide +kernel) (by decide +kernel) xk_92 xi_92 (hE.2.2.1 (253, "the temperature is not -30 to 15") (by decide +kernel)) xa_96 xg_96 hU9.1 hU9.2 hS (hl.1.trans hml.symm) dX4_checkWeather_72 dX4_checkWeather_75 dX4_checkWeather_76 dX4_checkWeather_78 dX4_checkWeather_81 (fun x9 hx9 => (htb x9 hx9).elim) (Nat.le_of_ble_eq_true rfl) (Nat.le_of_ble_eq_true rfl) (by first | exact Nat.le_of_ble_eq_true rfl | (show _ ≤ 1; omega)) (by first | exact Nat.le_of_ble_eq_true rfl | (show _ ≤ 6; omega)) hlocks (fun t hal h1 h2 => ⟨2, ⟨rfl, by first | (simp only [wthF, isInF, if_neg c_1, if_neg c_8, if_neg c_22, if_neg c_28, if_neg c_42, if_neg d_47, if_neg c_63, if_pos c_69, eq_self, if_true, i10f, if_false]; done) | (try unfold wthF; try unfold isInF; simp only [if_neg c_1, if_neg c_8, if_neg c_22, if_neg c_28, if_neg c_42, if_neg d_47, if_neg c_63, if_pos c_69, eq_self, if_true, i10f, if_false]; done) | (try unfold wthF; try unfold isInF; rfl) | rfl⟩, rfl, hS.Ft h1 h2⟩) hS.2.2 (by omega) (by omega)
            · have d_47 : 3 < xf := by first | exact i_lt4.mp c_47 | exact i_lt4n.mp c_47
              exact vx_throwS (own := RX4) (cls := "java/lang/IllegalArgumentException") (text := "from is not 0 to 3") (names := ["java/lang/RuntimeException", "java/lang/Exception"]) (ik := 92) (is := 251) (ic := 96) (sa := E.2.2 251) hx hb hlt hown (by decide +kernel) (by decide +kernel) xk_92 xi_92 (hE.2.2.1 (251, "from is not 0 to 3") (by decide +kernel)) xa_96 xg_96 hU9.1 hU9.2 hS (hl.1.trans hml.symm) dX4_checkWeather_50 dX4_checkWeather_53 dX4_checkWeather_54 dX4_checkWeather_56 dX4_checkWeather_59 (fun x9 hx9 => (htb x9 hx9).elim) (Nat.le_of_ble_eq_true rfl) (Nat.le_of_ble_eq_true rfl) (by first | exact Nat.le_of_ble_eq_true rfl | (show _ ≤ 1; omega)) (by first | exact Nat.le_of_ble_eq_true rfl | (show _ ≤ 6; omega)) hlocks (fun t hal h1 h2 => ⟨2, ⟨rfl, by first | (simp only [wthF, isInF, if_neg c_1, if_neg c_8, if_neg c_22, if_neg c_28, if_neg c_42, if_pos d_47, eq_self, if_true, i10f, if_false]; done) | (try unfold wthF; try unfold isInF; simp only [if_neg c_1, if_neg c_8, if_neg c_22, if_neg c_28, if_neg c_42, if_pos d_47, eq_self, if_true, i10f, if_false]; done) | (try unfold wthF; try unfold isInF; rfl) | rfl⟩, rfl, hS.Ft h1 h2⟩) hS.2.2 (by omega) (by omega)
        · exact vx_throwS (own := RX4) (cls := "java/lang/IllegalArgumentException") (text := "the wind is not 0 to 120") (names := ["java/lang/RuntimeException", "java/lang/Exception"]) (ik := 92) (is := 249) (ic := 96) (sa := E.2.2 249) hx hb hlt hown (by decide +kernel) (by decide +kernel) xk_92 xi_92 (hE.2.2.1 (249, "the wind is not 0 to 120") (by decide +kernel)) xa_96 xg_96 hU9.1 hU9.2 hS (hl.1.trans hml.symm) dX4_checkWeather_31 dX4_checkWeather_34 dX4_checkWeather_35 dX4_checkWeather_37 dX4_checkWeather_40 (fun x9 hx9 => (htb x9 hx9).elim) (Nat.le_of_ble_eq_true rfl) (Nat.le_of_ble_eq_true rfl) (by first | exact Nat.le_of_ble_eq_true rfl | (show _ ≤ 1; omega)) (by first | exact Nat.le_of_ble_eq_true rfl | (show _ ≤ 6; omega)) hlocks (fun t hal h1 h2 => ⟨2, ⟨rfl, by first | (simp only [wthF, isInF, if_neg c_1, if_neg c_8, if_neg c_22, if_pos c_28, eq_self, if_true, i10f, if_false]; done) | (try unfold wthF; try unfold isInF; simp only [if_neg c_1, if_neg c_8, if_neg c_22, if_pos c_28, eq_self, if_true, i10f, if_false]; done) | (try unfold wthF; try unfold isInF; rfl) | rfl⟩, rfl, hS.Ft h1 h2⟩) hS.2.2 (by omega) (by omega)
    · exact vx_throwS (own := RX4) (cls := "java/lang/IllegalArgumentException") (text := "the snow is not 0 to 150") (names := ["java/lang/RuntimeException", "java/lang/Exception"]) (ik := 92) (is := 247) (ic := 96) (sa := E.2.2 247) hx hb hlt hown (by decide +kernel) (by decide +kernel) xk_92 xi_92 (hE.2.2.1 (247, "the snow is not 0 to 150") (by decide +kernel)) xa_96 xg_96 hU9.1 hU9.2 hS (hl.1.trans hml.symm) dX4_checkWeather_11 dX4_checkWeather_14 dX4_checkWeather_15 dX4_checkWeather_17 dX4_checkWeather_20 (fun x9 hx9 => (htb x9 hx9).elim) (Nat.le_of_ble_eq_true rfl) (Nat.le_of_ble_eq_true rfl) (by first | exact Nat.le_of_ble_eq_true rfl | (show _ ≤ 1; omega)) (by first | exact Nat.le_of_ble_eq_true rfl | (show _ ≤ 6; omega)) hlocks (fun t hal h1 h2 => ⟨2, ⟨rfl, by first | (simp only [wthF, isInF, if_neg c_1, if_pos c_8, eq_self, if_true, i10f, if_false]; done) | (try unfold wthF; try unfold isInF; simp only [if_neg c_1, if_pos c_8, eq_self, if_true, i10f, if_false]; done) | (try unfold wthF; try unfold isInF; rfl) | rfl⟩, rfl, hS.Ft h1 h2⟩) hS.2.2 (by omega) (by omega)
set_option maxHeartbeats 4000000 in
set_option maxRecDepth 100000 in
theorem kX4_addRegion (l : Launch) (hlt : l.stackTraces = false) (E : ev_T) (ad : Nat → Nat) (S : Nat → Nat → Int32) (zs : Nat → Nat) (rn : Nat) (dy : Nat) (bn : Nat) (cn : Nat) (tn : Nat) (sz : Nat) (hrn : rn ≤ 6) (hdy : dy ≤ 60) : vx_Met l yX4_addRegion wsX4_addRegion ({ frames := 6, cells := 1, slots := 6, locals := 82 } : Room) (va_Pc [.ref (ad 0)] (pr_Y E (dC E ad S zs rn dy bn cn tn) sz)) (va_Qi (fun (r : Int32) (_ : Unit) => 0 = tAdd rn ∧ r = nI rn) (fun _ t => va_P E.1 vwCl (dC E ad S zs (rn + 1) dy bn cn tn) t.heap) (va_A (dC E ad S zs rn dy bn cn tn) sz)) (vx_X (fun (k : Nat) => k = tAdd rn ∧ ¬ k = 0) (fun Ex k t => Ex = exn ((exm 1 0 0) k) ∧ va_P E.1 vwCl (dC E ad S zs rn dy bn cn tn) t.heap) (va_A (dC E ad S zs rn dy bn cn tn) sz)) 1 6 (va_A (dC E ad S zs rn dy bn cn tn) sz) := by
  refine vx_ofW (cc := cX4_addRegion) (maxL := 1) (ret := (some .int)) (by decide) rfl ?_
  intro p e s m args below meth c s₁ B hml htb hv
  obtain ⟨rfl, hsz, hP, hD0, hE, hU9⟩ := hv
  have hx := B.exec
  have hb := B.bytes
  have hr := B.returns
  have hts := atoms_spec (ws := wsX4_addRegion) B.pre
  have hown : s.vm.findClass RX4 = some m.cls := findClass_of_methodNamed B.named
  have hlocks := B.notSynchronized
  subst hsz
  have hD : va_D (va_A (dC E ad S zs rn dy bn cn tn) s.heap.size) (dC E ad S zs rn dy bn cn tn) := hD0.self
  have hA : ∀ q : Nat, s.heap.size ≤ q → (va_A (dC E ad S zs rn dy bn cn tn) s.heap.size) q := fun q h => Or.inr h
  refine mz_start (fun H locs hH hL => ?_)
  have hS : va_S (va_A (dC E ad S zs rn dy bn cn tn) s.heap.size) s.heap H locs := by rw [hH, hL]; exact va_S.rf
  have f_41 := hts (.fieldLink RX4 41 "AvalancheDesk" "regionCount" "I") (by decide +kernel)
  have inX4 : ∀ w ∈ wsX40, w ∈ wsX4_addRegion := by decide +kernel
  have xk_45 := hts (.classLink RX4 45 "java/lang/IllegalStateException") (by decide +kernel)
  have xi_45 := hts (.initialized "java/lang/IllegalStateException") (by decide +kernel)
  have xa_49 : ∀ w ∈ vx_atS RX4 49 "java/lang/IllegalStateException" ["java/lang/RuntimeException", "java/lang/Exception"], w.before _ s = true := ev_at hE (fun w h => hts w ((by decide +kernel : ∀ w ∈ (vx_atS RX4 49 "java/lang/IllegalStateException" ["java/lang/RuntimeException", "java/lang/Exception"]).filter goodWord, w ∈ wsX4_addRegion) w h)) (by decide +kernel)
  have xg_49 : ∀ w ∈ Cond.classLink RX4 45 "java/lang/IllegalStateException" :: Cond.initialized "java/lang/IllegalStateException" :: vx_atS RX4 49 "java/lang/IllegalStateException" ["java/lang/RuntimeException", "java/lang/Exception"], vx_ot w = true := by decide +kernel
  have hl := lv_entry ([.ref (ad 0)]) (n := 1) (Nat.le_of_ble_eq_true rfl)
  rw [lg_entry_eq]
  generalize (lg_sl ([.ref (ad 0)]) ++ List.replicate (1 - (lg_sl ([.ref (ad 0)])).length) Slot.unset).toArray = ls at hl ⊢
  have hl : lv_has ls 1 [(0, .ref (ad 0))] := hl
  have hP : va_P E.1 vwCl (dC E ad S zs rn dy bn cn tn) H := by rw [hH]; exact hP
  refine lv_aload_n hx hb dX4_addRegion_0 rfl (lv_at hl 0 rfl) ?_
  refine va_get (D := E.1) (ci := 4) (v := .int (nI rn)) (C := RX4) (T := TX4) (N := 7) hx hb hts inX4 hown hE.1 hP 0 rfl rfl 5 (by decide) f_41 (fun _ h9 => h9) rfl dX4_addRegion_1 ?_
  refine lv_bipush (v := 6) hx hb dX4_addRegion_4 (by decide) ?_
  refine mz_ltN hx hb rn 6 (tgt := 19) dX4_addRegion_6 (by decide) (by omega) (by omega) (fun c_6 => ?_) (fun c_6 => ?_)
  · have q_19 : ¬ rn = 6 := by omega
    refine lv_aload_n hx hb dX4_addRegion_19 rfl (lv_at hl 0 rfl) ?_
    refine lv_dup hx hb dX4_addRegion_20 rfl ?_
    refine va_get (D := E.1) (ci := 4) (v := .int (nI rn)) (C := RX4) (T := TX4) (N := 7) hx hb hts inX4 hown hE.1 hP 0 rfl rfl 5 (by decide) f_41 (fun _ h9 => h9) rfl dX4_addRegion_21 ?_
    refine lv_dup_x1 hx hb dX4_addRegion_24 rfl rfl ?_
    refine lv_iconst (v := 1) hx hb dX4_addRegion_25 (by decide) ?_
    refine mz_addN hx hb rn 1 dX4_addRegion_26 ?_
    refine va_put (D := E.1) (ci := 4) (v := .int (nI (rn + 1))) (ty := .int) (C := RX4) (T := TX4) (N := 7) hx hb hts inX4 tyX4 tyX4_ok nmX4 hown hE.1 hP hD hS 0 rfl rfl 5 (by decide) f_41 (fun _ h9 => h9) rfl (by decide +kernel) rfl rfl (Nat.le_of_ble_eq_true rfl) dX4_addRegion_27 (fun H locs hP hD hS => ?_)
    have hP : va_P E.1 vwCl (dC E ad S zs (rn + 1) dy bn cn tn) H := hP
    have hD : va_D _ (dC E ad S zs (rn + 1) dy bn cn tn) := hD
    refine W.widen (k := 1) (n := 6) (by omega) (by omega) ?_
    refine vx_ret ?_
    have hB9 : va_P E.1 vwCl (dC E ad S zs (rn + 1) dy bn cn tn) H := by exact hP
    exact W.iret (v := nI rn) hx hb hr (fun t ht hW => ⟨⟨_, (), rfl, ⟨(by first | (simp only [tAdd, if_pos c_6, if_neg q_19, eq_self, if_true, i10f, if_false]; done) | (try unfold tAdd; simp only [if_pos c_6, if_neg q_19, eq_self, if_true, i10f, if_false]; done) | (try unfold tAdd; rfl) | rfl), (by first | (simp only [if_pos c_6, if_neg q_19, eq_self, if_true, i10f, if_false]; done) | rfl)⟩, (by subst ht; exact hB9)⟩, hS.F ht⟩) hS.2.2 dX4_addRegion_30
  · have q_9 : rn = 6 := by omega
    exact vx_throwS (own := RX4) (cls := "java/lang/IllegalStateException") (text := "there are 6 regions") (names := ["java/lang/RuntimeException", "java/lang/Exception"]) (ik := 45) (is := 47) (ic := 49) (sa := E.2.2 47) hx hb hlt hown (by decide +kernel) (by decide +kernel) xk_45 xi_45 (hE.2.2.1 (47, "there are 6 regions") (by decide +kernel)) xa_49 xg_49 hU9.1 hU9.2 hS (hl.1.trans hml.symm) dX4_addRegion_9 dX4_addRegion_12 dX4_addRegion_13 dX4_addRegion_15 dX4_addRegion_18 (fun x9 hx9 => (htb x9 hx9).elim) (Nat.le_of_ble_eq_true rfl) (Nat.le_of_ble_eq_true rfl) (by first | exact Nat.le_of_ble_eq_true rfl | (show _ ≤ 1; omega)) (by first | exact Nat.le_of_ble_eq_true rfl | (show _ ≤ 6; omega)) hlocks (fun t hal h1 h2 => ⟨1, ⟨by first | (simp only [tAdd, if_neg (Nat.not_lt.mpr c_6), if_pos q_9, eq_self, if_true, i10f, if_false]; done) | (try unfold tAdd; simp only [if_neg (Nat.not_lt.mpr c_6), if_pos q_9, eq_self, if_true, i10f, if_false]; done) | (try unfold tAdd; rfl) | rfl, by decide⟩, ⟨rfl, hP.later h2⟩, hS.Ft h1 h2⟩) hS.2.2 (by omega) (by omega)
set_option maxHeartbeats 4000000 in
set_option maxRecDepth 100000 in
theorem kX4_weather (l : Launch) (hlt : l.stackTraces = false) (E : ev_T) (ad : Nat → Nat) (S : Nat → Nat → Int32) (zs : Nat → Nat) (rn : Nat) (dy : Nat) (bn : Nat) (cn : Nat) (tn : Nat) (xr : Int32) (xn : Int32) (xw : Int32) (xf : Int32) (xt : Int32) (sz : Nat) (hrn : rn ≤ 6) (hdy : dy ≤ 60) : vx_Met l yX4_weather wsX4_weather ({ frames := 7, cells := 2, slots := 12, locals := 105 } : Room) (va_Pc [.ref (ad 0), .int xr, .int xn, .int xw, .int xf, .int xt] (pr_Y E (dC E ad S zs rn dy bn cn tn) sz)) (va_Qi (fun (r : Int32) (_ : Unit) => 0 = tWea xr xn xw xf xt rn ∧ r = if (S (2 + 2 * (Int32.toNatClampNeg xr))) 1 = 0 then 1 else 0) (fun _ t => va_P E.1 vwCl (dC E ad (va_up S (2 + 2 * (Int32.toNatClampNeg xr)) (fF 1 xn xw xf xt)) zs rn dy bn cn tn) t.heap) (va_A (dC E ad S zs rn dy bn cn tn) sz)) (vx_X (fun (k : Nat) => k = tWea xr xn xw xf xt rn ∧ ¬ k = 0) (fun Ex k t => Ex = exn ((exm 3 2 0) k) ∧ va_P E.1 vwCl (dC E ad S zs rn dy bn cn tn) t.heap) (va_A (dC E ad S zs rn dy bn cn tn) sz)) 2 12 (va_A (dC E ad S zs rn dy bn cn tn) sz) := by
  refine vx_ofW (cc := cX4_weather) (maxL := 8) (ret := (some .boolean)) (by decide) rfl ?_
  intro p e s m args below meth c s₁ B hml htb hv
  obtain ⟨rfl, hsz, hP, hD0, hE, hU9⟩ := hv
  have hx := B.exec
  have hb := B.bytes
  have hr := B.returns
  have hts := atoms_spec (ws := wsX4_weather) B.pre
  have hown : s.vm.findClass RX4 = some m.cls := findClass_of_methodNamed B.named
  have hlocks := B.notSynchronized
  subst hsz
  have hD : va_D (va_A (dC E ad S zs rn dy bn cn tn) s.heap.size) (dC E ad S zs rn dy bn cn tn) := hD0.self
  have hA : ∀ q : Nat, s.heap.size ≤ q → (va_A (dC E ad S zs rn dy bn cn tn) s.heap.size) q := fun q h => Or.inr h
  refine mz_start (fun H locs hH hL => ?_)
  have hS : va_S (va_A (dC E ad S zs rn dy bn cn tn) s.heap.size) s.heap H locs := by rw [hH, hL]; exact va_S.rf
  have f_11 := hts (.fieldLink RX4 11 "AvalancheDesk" "regions" "[LAvalancheDesk$Region;") (by decide +kernel)
  have inX4 : ∀ w ∈ wsX40, w ∈ wsX4_weather := by decide +kernel
  have f_60 : (Cond.fieldLinkNest RX4 60 RX2 "isWeatherTold" "Z" RX4).before [.ref (ad 0), .int xr, .int xn, .int xw, .int xf, .int xt].toArray s = true := va_Nw.use rfl (hE.2.1 _ (by decide +kernel))
  have inX2 : ∀ w ∈ wsX20, w ∈ wsX4_weather := by decide +kernel
  have hl := lv_entry ([.ref (ad 0), .int xr, .int xn, .int xw, .int xf, .int xt]) (n := 8) (Nat.le_of_ble_eq_true rfl)
  rw [lg_entry_eq]
  generalize (lg_sl ([.ref (ad 0), .int xr, .int xn, .int xw, .int xf, .int xt]) ++ List.replicate (8 - (lg_sl ([.ref (ad 0), .int xr, .int xn, .int xw, .int xf, .int xt])).length) Slot.unset).toArray = ls at hl ⊢
  have hl : lv_has ls 8 [(0, .ref (ad 0)), (1, .int xr), (2, .int xn), (3, .int xw), (4, .int xf), (5, .int xt)] := hl
  have hP : va_P E.1 vwCl (dC E ad S zs rn dy bn cn tn) H := by rw [hH]; exact hP
  refine lv_aload_n hx hb dX4_weather_0 rfl (lv_at hl 0 rfl) ?_
  refine lv_iload_n hx hb dX4_weather_1 rfl (lv_at hl 1 rfl) ?_
  refine vx_callv (vx_runV (As := [.int xr]) (rest := []) ⟨hx, hb, hml, hown, hts⟩ (kX4_checkRegion l hlt E (ad 0) (ad 1) (ad 14) (ad 16) (ad 19) (ad 24) rn dy xr (by first | omega | assumption | (intro k h; have := hz k h; omega))) (cwV 1 hts gX4_weather_X4_checkRegion rfl rfl rfl (by decide +kernel) ⟨Nat.le_of_ble_eq_true rfl, Nat.le_of_ble_eq_true rfl⟩) ⟨fb_X, va_recv hE.1 hP (ci := 4) (q0 := 0) rfl rfl, fun U hU hW => ⟨rfl, (by rw [hU]; exact hP.sub (ws' := [((ad 0), .inr (4, [.ref (ad 1), .ref (ad 14), .ref (ad 16), .ref (ad 19), .ref (ad 24), .int (nI rn), .int (nI dy)]))]) [0] rfl), hE.warm hW, hU9.to hS (fun _ h => h.elim) hU hW⟩⟩ rfl rfl hl.1 rfl (lv_room (Nat.le_of_ble_eq_true rfl)) dX4_weather_2 ⟨by first | exact Nat.le_of_ble_eq_true rfl | (show _ ≤ 2; omega), by first | exact Nat.le_of_ble_eq_true rfl | (show _ ≤ 12; omega)⟩) hS (fun q _ h => h.elim) (fun q h => h.elim) (fun q _ h => h.elim)
    (fun Ex ce q9 u9 t H1 locs ht hvm hw hB hz1 hk1 hS hce hcv hcl => ?_) (fun u t H1 locs ht hvm hw hB hz1 hk1 hS => ?_)
  · have hP := hP.ro hk1
    obtain ⟨rfl, x_2⟩ := hw
    exact vx_out (fun x9 hx9 => (htb x9 hx9).elim) hlocks hce hcv hcl (fun t9 ht9 hal9 => ⟨1, ⟨by first | (simp only [tWea, eq_self, if_true, i10f, if_false, if_pos x_2]; done) | (try unfold tWea; simp only [eq_self, if_true, i10f, if_false, if_pos x_2]; done) | (try unfold tWea; rfl) | rfl, by decide⟩, ⟨hB, by rw [ht9]; exact hP⟩, hS.F ht9⟩) hS.2.2 (by first | (show _ ≤ 2; omega)) (by first | (show _ ≤ 12; omega))
  · skip
    have hP := hP.ro hk1
    generalize H1 = H at hP hS ⊢
    have c_2 := hw
    have q_2 := hw
    obtain ⟨jr, hjr, rfl⟩ := inF_some q_2 (by omega)
    refine lv_iload_n hx hb dX4_weather_5 rfl (lv_at hl 2 rfl) ?_
    refine lv_iload_n hx hb dX4_weather_6 rfl (lv_at hl 3 rfl) ?_
    refine lv_iload hx hb dX4_weather_7 (lv_at hl 4 rfl) ?_
    refine lv_iload hx hb dX4_weather_9 (lv_at hl 5 rfl) ?_
    refine vx_callv (vx_runS (As := [.int xn, .int xw, .int xf, .int xt]) (rest := []) ⟨hx, hb, hml, hown, hts⟩ (kX4_checkWeather l hlt E xn xw xf xt) (va_cwS 4 hts gX4_weather_X4_checkWeather rfl rfl rfl (by decide +kernel) ⟨Nat.le_of_ble_eq_true rfl, Nat.le_of_ble_eq_true rfl⟩) ⟨fb_X, fun U hU hW => ⟨rfl, (by rw [hU]; exact hP.sub (ws' := []) [] rfl), hE.warm hW, hU9.to hS (fun _ h => h.elim) hU hW⟩⟩ rfl rfl hl.1 rfl (lv_room (Nat.le_of_ble_eq_true rfl)) dX4_weather_11 ⟨by first | exact Nat.le_of_ble_eq_true rfl | (show _ ≤ 2; omega), by first | exact Nat.le_of_ble_eq_true rfl | (show _ ≤ 12; omega)⟩) hS (fun q _ h => h.elim) (fun q h => h.elim) (fun q _ h => h.elim)
      (fun Ex ce q9 u9 t H1 locs ht hvm hw hB hz1 hk1 hS hce hcv hcl => ?_) (fun u t H1 locs ht hvm hw hB hz1 hk1 hS => ?_)
    · have hP := hP.ro hk1
      obtain ⟨rfl, x_11⟩ := hw
      exact vx_out (fun x9 hx9 => (htb x9 hx9).elim) hlocks hce hcv hcl (fun t9 ht9 hal9 => ⟨2, ⟨by first | (simp only [tWea, if_neg c_2, nI_clamp (show jr < 2 ^ 31 by omega), eq_self, if_true, i10f, if_false, if_pos x_11]; done) | (try unfold tWea; simp only [if_neg c_2, nI_clamp (show jr < 2 ^ 31 by omega), eq_self, if_true, i10f, if_false, if_pos x_11]; done) | (try unfold tWea; rfl) | rfl, by decide⟩, ⟨hB, by rw [ht9]; exact hP⟩, hS.F ht9⟩) hS.2.2 (by first | (show _ ≤ 2; omega)) (by first | (show _ ≤ 12; omega))
    · skip
      have hP := hP.ro hk1
      generalize H1 = H at hP hS ⊢
      have c_11 := hw
      refine lv_aload_n hx hb dX4_weather_14 rfl (lv_at hl 0 rfl) ?_
      refine va_get (D := E.1) (ci := 4) (v := .ref (ad 1)) (C := RX4) (T := TX4) (N := 7) hx hb hts inX4 hown hE.1 hP 0 rfl rfl 0 (by decide) f_11 (fun _ h9 => h9) rfl dX4_weather_15 ?_
      refine lv_iload_n hx hb dX4_weather_18 rfl (lv_at hl 1 rfl) ?_
      refine mz_ald hx hb hE.1 hP 1 1 (n := 6) rfl rfl jr (by omega) (by omega) (y := ad (2 + 2 * jr)) rfl dX4_weather_19 ?_
      refine lv_astore (lv' := [(6, .ref (ad (2 + 2 * jr))), (0, .ref (ad 0)), (1, .int (nI jr)), (2, .int xn), (3, .int xw), (4, .int xf), (5, .int xt)]) hx hb dX4_weather_20 hl (by decide) rfl (fun ls hl => ?_)
      refine lv_aload hx hb dX4_weather_22 (lv_at hl 0 rfl) ?_
      refine va_getN (D := E.1) (ci := 2) (v := .int ((S (2 + 2 * jr)) 1)) (C := RX2) (T := TX2) (N := 6) (fs := [.ref (ad (3 + 2 * jr)), .int ((S (2 + 2 * jr)) 1), .int ((S (2 + 2 * jr)) 2), .int ((S (2 + 2 * jr)) 3), .int ((S (2 + 2 * jr)) 4), .int ((S (2 + 2 * jr)) 5)]) hx hb hts inX2 hown hE.1 hP (2 + 2 * jr) (by rcases (show jr = 0 ∨ jr = 1 ∨ jr = 2 ∨ jr = 3 ∨ jr = 4 ∨ jr = 5 from by omega) with rfl | rfl | rfl | rfl | rfl | rfl <;> rfl) rfl 1 (by decide) f_60 (fun _ h9 => h9) rfl dX4_weather_24 ?_
      refine lv_if_ne (tgt := 34) hx hb dX4_weather_27 (by decide) (fun c_27 => ?_) (fun c_27 => ?_)
      · refine lv_iconst (v := 0) hx hb dX4_weather_34 (by decide) ?_
        refine lv_istore (lv' := [(7, .int 0), (6, .ref (ad (2 + 2 * jr))), (0, .ref (ad 0)), (1, .int (nI jr)), (2, .int xn), (3, .int xw), (4, .int xf), (5, .int xt)]) hx hb dX4_weather_35 hl (by decide) rfl (fun ls hl => ?_)
        refine lv_aload hx hb dX4_weather_37 (lv_at hl 1 rfl) ?_
        refine lv_iload_n hx hb dX4_weather_39 rfl (lv_at hl 4 rfl) ?_
        refine lv_iload_n hx hb dX4_weather_40 rfl (lv_at hl 5 rfl) ?_
        refine lv_iload hx hb dX4_weather_41 (lv_at hl 6 rfl) ?_
        refine lv_iload hx hb dX4_weather_43 (lv_at hl 7 rfl) ?_
        have hFc := va_free (wc := [((ad (2 + 2 * jr)), .inr (2, [.ref (ad (3 + 2 * jr)), .int ((S (2 + 2 * jr)) 1), .int ((S (2 + 2 * jr)) 2), .int ((S (2 + 2 * jr)) 3), .int ((S (2 + 2 * jr)) 4), .int ((S (2 + 2 * jr)) 5)])), ((ad (3 + 2 * jr)), .inl (E.2.1 0, 60, .inl (S (3 + 2 * jr))))]) hD hS hA [2 + 2 * jr, 3 + 2 * jr] (by rcases (show jr = 0 ∨ jr = 1 ∨ jr = 2 ∨ jr = 3 ∨ jr = 4 ∨ jr = 5 from by omega) with rfl | rfl | rfl | rfl | rfl | rfl <;> rfl)
        refine va_callv (va_runV (As := [.int xn, .int xw, .int xf, .int xt]) (rest := []) ⟨hx, hb, hml, hown, hts⟩ (kX2_tellWeather l E (ad (2 + 2 * jr)) (ad (3 + 2 * jr)) (S (2 + 2 * jr)) (S (3 + 2 * jr)) xn xw xf xt H.size) (cwV 4 hts gX4_weather_X2_tellWeather rfl rfl rfl (by decide +kernel) ⟨Nat.le_of_ble_eq_true rfl, Nat.le_of_ble_eq_true rfl⟩) ⟨fb_W, va_recv hE.1 hP (ci := 2) (q0 := 2 + 2 * jr) (a := (ad (2 + 2 * jr))) (fs := [.ref (ad (3 + 2 * jr)), .int ((S (2 + 2 * jr)) 1), .int ((S (2 + 2 * jr)) 2), .int ((S (2 + 2 * jr)) 3), .int ((S (2 + 2 * jr)) 4), .int ((S (2 + 2 * jr)) 5)]) rfl (by rcases (show jr = 0 ∨ jr = 1 ∨ jr = 2 ∨ jr = 3 ∨ jr = 4 ∨ jr = 5 from by omega) with rfl | rfl | rfl | rfl | rfl | rfl <;> rfl), fun U hU hW => ⟨rfl, by rw [hU], (by rw [hU]; exact hP.sub (ws' := [((ad (2 + 2 * jr)), .inr (2, [.ref (ad (3 + 2 * jr)), .int ((S (2 + 2 * jr)) 1), .int ((S (2 + 2 * jr)) 2), .int ((S (2 + 2 * jr)) 3), .int ((S (2 + 2 * jr)) 4), .int ((S (2 + 2 * jr)) 5)])), ((ad (3 + 2 * jr)), .inl (E.2.1 0, 60, .inl (S (3 + 2 * jr))))]) [2 + 2 * jr, 3 + 2 * jr] (by rcases (show jr = 0 ∨ jr = 1 ∨ jr = 2 ∨ jr = 3 ∨ jr = 4 ∨ jr = 5 from by omega) with rfl | rfl | rfl | rfl | rfl | rfl <;> rfl)), (hD.sub (ws' := [((ad (2 + 2 * jr)), .inr (2, [.ref (ad (3 + 2 * jr)), .int ((S (2 + 2 * jr)) 1), .int ((S (2 + 2 * jr)) 2), .int ((S (2 + 2 * jr)) 3), .int ((S (2 + 2 * jr)) 4), .int ((S (2 + 2 * jr)) 5)])), ((ad (3 + 2 * jr)), .inl (E.2.1 0, 60, .inl (S (3 + 2 * jr))))]) [2 + 2 * jr, 3 + 2 * jr] (by rcases (show jr = 0 ∨ jr = 1 ∨ jr = 2 ∨ jr = 3 ∨ jr = 4 ∨ jr = 5 from by omega) with rfl | rfl | rfl | rfl | rfl | rfl <;> rfl) (by rcases (show jr = 0 ∨ jr = 1 ∨ jr = 2 ∨ jr = 3 ∨ jr = 4 ∨ jr = 5 from by omega) with rfl | rfl | rfl | rfl | rfl | rfl <;> rfl)).weaken (fun _ _ _ _ => trivial), hE.warm hW⟩⟩ rfl rfl hl.1 rfl (lv_room (Nat.le_of_ble_eq_true rfl)) dX4_weather_45 ⟨by first | exact Nat.le_of_ble_eq_true rfl | (show _ ≤ 2; omega), by first | exact Nat.le_of_ble_eq_true rfl | (show _ ≤ 12; omega)⟩) hS (fun q _ h => hFc q h) hFc (fun u t H1 locs ht hvm hw hB hz1 hk1 hS => ?_)
        rw [ht] at hB
        obtain ⟨hP, hD⟩ := va_put2 (ws' := (dC E ad (va_up S (2 + 2 * jr) (fF 1 xn xw xf xt)) zs rn dy bn cn tn)) hP hD [2 + 2 * jr, 3 + 2 * jr] (by rcases (show jr = 0 ∨ jr = 1 ∨ jr = 2 ∨ jr = 3 ∨ jr = 4 ∨ jr = 5 from by omega) with rfl | rfl | rfl | rfl | rfl | rfl <;> rfl) hk1 hB rfl (by simp only [List.map_cons, List.map_nil]) (by rcases (show jr = 0 ∨ jr = 1 ∨ jr = 2 ∨ jr = 3 ∨ jr = 4 ∨ jr = 5 from by omega) with rfl | rfl | rfl | rfl | rfl | rfl <;> rfl)
        generalize H1 = H at hP hS ⊢
        refine lv_iload hx hb dX4_weather_48 (lv_at hl 0 rfl) ?_
        refine vx_ret ?_
        have e9_1 : va_up S (2 + 2 * (Int32.toNatClampNeg (nI jr))) (fF 1 xn xw xf xt) = va_up S (2 + 2 * jr) (fF 1 xn xw xf xt) := by first | (simp only [if_neg c_2, nI_clamp (show jr < 2 ^ 31 by omega), if_neg c_11, if_neg c_27, eq_self, if_true, i10f, if_false]; done) | rfl
        have hB9 : va_P E.1 vwCl (dC E ad (va_up S (2 + 2 * (Int32.toNatClampNeg (nI jr))) (fF 1 xn xw xf xt)) zs rn dy bn cn tn) H := by rw [e9_1]; exact hP
        exact W.zret (v := 0) hx hb hr rfl (fun t ht hW => ⟨⟨_, (), rfl, ⟨(by first | (simp only [tWea, if_neg c_2, nI_clamp (show jr < 2 ^ 31 by omega), if_neg c_11, if_neg c_27, eq_self, if_true, i10f, if_false]; done) | (try unfold tWea; simp only [if_neg c_2, nI_clamp (show jr < 2 ^ 31 by omega), if_neg c_11, if_neg c_27, eq_self, if_true, i10f, if_false]; done) | (try unfold tWea; rfl) | rfl), (by first | (simp only [if_neg c_2, nI_clamp (show jr < 2 ^ 31 by omega), if_neg c_11, if_neg c_27, eq_self, if_true, i10f, if_false]; done) | rfl)⟩, (by subst ht; exact hB9)⟩, hS.F ht⟩) hS.2.2 dX4_weather_50
      · refine lv_iconst (v := 1) hx hb dX4_weather_30 (by decide) ?_
        refine lv_goto (tgt := 35) hx hb dX4_weather_31 (by decide) ?_
        refine lv_istore (lv' := [(7, .int 1), (6, .ref (ad (2 + 2 * jr))), (0, .ref (ad 0)), (1, .int (nI jr)), (2, .int xn), (3, .int xw), (4, .int xf), (5, .int xt)]) hx hb dX4_weather_35 hl (by decide) rfl (fun ls hl => ?_)
        refine lv_aload hx hb dX4_weather_37 (lv_at hl 1 rfl) ?_
        refine lv_iload_n hx hb dX4_weather_39 rfl (lv_at hl 4 rfl) ?_
        refine lv_iload_n hx hb dX4_weather_40 rfl (lv_at hl 5 rfl) ?_
        refine lv_iload hx hb dX4_weather_41 (lv_at hl 6 rfl) ?_
        refine lv_iload hx hb dX4_weather_43 (lv_at hl 7 rfl) ?_
        have hFc := va_free (wc := [((ad (2 + 2 * jr)), .inr (2, [.ref (ad (3 + 2 * jr)), .int ((S (2 + 2 * jr)) 1), .int ((S (2 + 2 * jr)) 2), .int ((S (2 + 2 * jr)) 3), .int ((S (2 + 2 * jr)) 4), .int ((S (2 + 2 * jr)) 5)])), ((ad (3 + 2 * jr)), .inl (E.2.1 0, 60, .inl (S (3 + 2 * jr))))]) hD hS hA [2 + 2 * jr, 3 + 2 * jr] (by rcases (show jr = 0 ∨ jr = 1 ∨ jr = 2 ∨ jr = 3 ∨ jr = 4 ∨ jr = 5 from by omega) with rfl | rfl | rfl | rfl | rfl | rfl <;> rfl)
        refine va_callv (va_runV (As := [.int xn, .int xw, .int xf, .int xt]) (rest := []) ⟨hx, hb, hml, hown, hts⟩ (kX2_tellWeather l E (ad (2 + 2 * jr)) (ad (3 + 2 * jr)) (S (2 + 2 * jr)) (S (3 + 2 * jr)) xn xw xf xt H.size) (cwV 4 hts gX4_weather_X2_tellWeather rfl rfl rfl (by decide +kernel) ⟨Nat.le_of_ble_eq_true rfl, Nat.le_of_ble_eq_true rfl⟩) ⟨fb_W, va_recv hE.1 hP (ci := 2) (q0 := 2 + 2 * jr) (a := (ad (2 + 2 * jr))) (fs := [.ref (ad (3 + 2 * jr)), .int ((S (2 + 2 * jr)) 1), .int ((S (2 + 2 * jr)) 2), .int ((S (2 + 2 * jr)) 3), .int ((S (2 + 2 * jr)) 4), .int ((S (2 + 2 * jr)) 5)]) rfl (by rcases (show jr = 0 ∨ jr = 1 ∨ jr = 2 ∨ jr = 3 ∨ jr = 4 ∨ jr = 5 from by omega) with rfl | rfl | rfl | rfl | rfl | rfl <;> rfl), fun U hU hW => ⟨rfl, by rw [hU], (by rw [hU]; exact hP.sub (ws' := [((ad (2 + 2 * jr)), .inr (2, [.ref (ad (3 + 2 * jr)), .int ((S (2 + 2 * jr)) 1), .int ((S (2 + 2 * jr)) 2), .int ((S (2 + 2 * jr)) 3), .int ((S (2 + 2 * jr)) 4), .int ((S (2 + 2 * jr)) 5)])), ((ad (3 + 2 * jr)), .inl (E.2.1 0, 60, .inl (S (3 + 2 * jr))))]) [2 + 2 * jr, 3 + 2 * jr] (by rcases (show jr = 0 ∨ jr = 1 ∨ jr = 2 ∨ jr = 3 ∨ jr = 4 ∨ jr = 5 from by omega) with rfl | rfl | rfl | rfl | rfl | rfl <;> rfl)), (hD.sub (ws' := [((ad (2 + 2 * jr)), .inr (2, [.ref (ad (3 + 2 * jr)), .int ((S (2 + 2 * jr)) 1), .int ((S (2 + 2 * jr)) 2), .int ((S (2 + 2 * jr)) 3), .int ((S (2 + 2 * jr)) 4), .int ((S (2 + 2 * jr)) 5)])), ((ad (3 + 2 * jr)), .inl (E.2.1 0, 60, .inl (S (3 + 2 * jr))))]) [2 + 2 * jr, 3 + 2 * jr] (by rcases (show jr = 0 ∨ jr = 1 ∨ jr = 2 ∨ jr = 3 ∨ jr = 4 ∨ jr = 5 from by omega) with rfl | rfl | rfl | rfl | rfl | rfl <;> rfl) (by rcases (show jr = 0 ∨ jr = 1 ∨ jr = 2 ∨ jr = 3 ∨ jr = 4 ∨ jr = 5 from by omega) with rfl | rfl | rfl | rfl | rfl | rfl <;> rfl)).weaken (fun _ _ _ _ => trivial), hE.warm hW⟩⟩ rfl rfl hl.1 rfl (lv_room (Nat.le_of_ble_eq_true rfl)) dX4_weather_45 ⟨by first | exact Nat.le_of_ble_eq_true rfl | (show _ ≤ 2; omega), by first | exact Nat.le_of_ble_eq_true rfl | (show _ ≤ 12; omega)⟩) hS (fun q _ h => hFc q h) hFc (fun u t H1 locs ht hvm hw hB hz1 hk1 hS => ?_)
        rw [ht] at hB
        obtain ⟨hP, hD⟩ := va_put2 (ws' := (dC E ad (va_up S (2 + 2 * jr) (fF 1 xn xw xf xt)) zs rn dy bn cn tn)) hP hD [2 + 2 * jr, 3 + 2 * jr] (by rcases (show jr = 0 ∨ jr = 1 ∨ jr = 2 ∨ jr = 3 ∨ jr = 4 ∨ jr = 5 from by omega) with rfl | rfl | rfl | rfl | rfl | rfl <;> rfl) hk1 hB rfl (by simp only [List.map_cons, List.map_nil]) (by rcases (show jr = 0 ∨ jr = 1 ∨ jr = 2 ∨ jr = 3 ∨ jr = 4 ∨ jr = 5 from by omega) with rfl | rfl | rfl | rfl | rfl | rfl <;> rfl)
        generalize H1 = H at hP hS ⊢
        refine lv_iload hx hb dX4_weather_48 (lv_at hl 0 rfl) ?_
        refine vx_ret ?_
        have e9_1 : va_up S (2 + 2 * (Int32.toNatClampNeg (nI jr))) (fF 1 xn xw xf xt) = va_up S (2 + 2 * jr) (fF 1 xn xw xf xt) := by first | (simp only [if_neg c_2, nI_clamp (show jr < 2 ^ 31 by omega), if_neg c_11, if_pos c_27, eq_self, if_true, i10f, if_false]; done) | rfl
        have hB9 : va_P E.1 vwCl (dC E ad (va_up S (2 + 2 * (Int32.toNatClampNeg (nI jr))) (fF 1 xn xw xf xt)) zs rn dy bn cn tn) H := by rw [e9_1]; exact hP
        exact W.zret (v := 1) hx hb hr rfl (fun t ht hW => ⟨⟨_, (), rfl, ⟨(by first | (simp only [tWea, if_neg c_2, nI_clamp (show jr < 2 ^ 31 by omega), if_neg c_11, if_pos c_27, eq_self, if_true, i10f, if_false]; done) | (try unfold tWea; simp only [if_neg c_2, nI_clamp (show jr < 2 ^ 31 by omega), if_neg c_11, if_pos c_27, eq_self, if_true, i10f, if_false]; done) | (try unfold tWea; rfl) | rfl), (by first | (simp only [if_neg c_2, nI_clamp (show jr < 2 ^ 31 by omega), if_neg c_11, if_pos c_27, eq_self, if_true, i10f, if_false]; done) | rfl)⟩, (by subst ht; exact hB9)⟩, hS.F ht⟩) hS.2.2 dX4_weather_50
set_option maxHeartbeats 4000000 in
set_option maxRecDepth 100000 in
theorem kX4_day (l : Launch) (E : ev_T) (ad : Nat → Nat) (S : Nat → Nat → Int32) (zs : Nat → Nat) (rn : Nat) (dy : Nat) (bn : Nat) (cn : Nat) (tn : Nat) (hrn : rn ≤ 6) (hdy : dy ≤ 60) : Met l yX4_day wsX4_day ({ frames := 0, cells := 0, slots := 0, locals := 0 } : Room) (va_Pc [.ref (ad 0)] (pr_R E (dC E ad S zs rn dy bn cn tn))) (va_Qi (fun (r : Int32) (_ : Unit) => r = nI dy) (fun _ _ => True) (fun _ : Nat => False)) 0 0 (fun _ : Nat => False) := by
  refine Met.ofW (cc := cX4_day) (maxL := 1) (ret := (some .int)) (by decide) rfl ?_
  intro p e s m args below meth c s₁ B hml hv
  obtain ⟨rfl, hP, hE⟩ := hv
  have hx := B.exec
  have hb := B.bytes
  have hr := B.returns
  have hts := atoms_spec (ws := wsX4_day) B.pre
  have hown : s.vm.findClass RX4 = some m.cls := findClass_of_methodNamed B.named
  have hlocks := B.notSynchronized
  refine mz_start (fun H locs hH hL => ?_)
  have hS : va_S (fun _ : Nat => False) s.heap H locs := by rw [hH, hL]; exact va_S.rf
  have f_67 := hts (.fieldLink RX4 67 "AvalancheDesk" "today" "I") (by decide +kernel)
  have inX4 : ∀ w ∈ wsX40, w ∈ wsX4_day := by decide +kernel
  have hl := lv_entry ([.ref (ad 0)]) (n := 1) (Nat.le_of_ble_eq_true rfl)
  rw [lg_entry_eq]
  generalize (lg_sl ([.ref (ad 0)]) ++ List.replicate (1 - (lg_sl ([.ref (ad 0)])).length) Slot.unset).toArray = ls at hl ⊢
  have hl : lv_has ls 1 [(0, .ref (ad 0))] := hl
  have hP : va_P E.1 vwCl (dC E ad S zs rn dy bn cn tn) H := by rw [hH]; exact hP
  refine lv_aload_n hx hb dX4_day_0 rfl (lv_at hl 0 rfl) ?_
  refine va_get (D := E.1) (ci := 4) (v := .int (nI dy)) (C := RX4) (T := TX4) (N := 7) hx hb hts inX4 hown hE.1 hP 0 rfl rfl 6 (by decide) f_67 (fun _ h9 => h9) rfl dX4_day_1 ?_
  exact W.iret (v := nI dy) hx hb hr (fun t ht hW => ⟨⟨_, (), rfl, (by first | rfl), trivial⟩, hS.F ht⟩) hS.2.2 dX4_day_4
set_option maxHeartbeats 4000000 in
set_option maxRecDepth 100000 in
theorem kX4_sector (l : Launch) (hlt : l.stackTraces = false) (E : ev_T) (ad : Nat → Nat) (S : Nat → Nat → Int32) (zs : Nat → Nat) (rn : Nat) (dy : Nat) (bn : Nat) (cn : Nat) (tn : Nat) (xr : Int32) (xs : Int32) (xw : Int32) (hrn : rn ≤ 6) (hdy : dy ≤ 60) : vx_Met l yX4_sector wsX4_sector ({ frames := 7, cells := 3, slots := 18, locals := 103 } : Room) (va_Pc [.ref (ad 0), .int xr, .int xs, .int xw] (pr_X E (dC E ad S zs rn dy bn cn tn))) (va_Qi (fun (r : Int32) (_ : Unit) => 0 = tSec xr xs xw rn ∧ r = S (3 + 2 * (Int32.toNatClampNeg xr)) ((Int32.toNatClampNeg xs) * 5 + (Int32.toNatClampNeg xw))) (fun _ _ => True) (fun _ : Nat => False)) (vx_X (fun (k : Nat) => k = tSec xr xs xw rn ∧ ¬ k = 0) (fun Ex k _ => Ex = exn ((exm 3 0 0) k)) (fun _ : Nat => False)) 3 18 (fun _ : Nat => False) := by
  refine vx_ofW (cc := cX4_sector) (maxL := 4) (ret := (some .int)) (by decide) rfl ?_
  intro p e s m args below meth c s₁ B hml htb hv
  obtain ⟨rfl, hP, hE, hU9⟩ := hv
  have hx := B.exec
  have hb := B.bytes
  have hr := B.returns
  have hts := atoms_spec (ws := wsX4_sector) B.pre
  have hown : s.vm.findClass RX4 = some m.cls := findClass_of_methodNamed B.named
  have hlocks := B.notSynchronized
  refine mz_start (fun H locs hH hL => ?_)
  have hS : va_S (fun _ : Nat => False) s.heap H locs := by rw [hH, hL]; exact va_S.rf
  have f_11 := hts (.fieldLink RX4 11 "AvalancheDesk" "regions" "[LAvalancheDesk$Region;") (by decide +kernel)
  have inX4 : ∀ w ∈ wsX40, w ∈ wsX4_sector := by decide +kernel
  have hl := lv_entry ([.ref (ad 0), .int xr, .int xs, .int xw]) (n := 4) (Nat.le_of_ble_eq_true rfl)
  rw [lg_entry_eq]
  generalize (lg_sl ([.ref (ad 0), .int xr, .int xs, .int xw]) ++ List.replicate (4 - (lg_sl ([.ref (ad 0), .int xr, .int xs, .int xw])).length) Slot.unset).toArray = ls at hl ⊢
  have hl : lv_has ls 4 [(0, .ref (ad 0)), (1, .int xr), (2, .int xs), (3, .int xw)] := hl
  have hP : va_P E.1 vwCl (dC E ad S zs rn dy bn cn tn) H := by rw [hH]; exact hP
  refine lv_aload_n hx hb dX4_sector_0 rfl (lv_at hl 0 rfl) ?_
  refine lv_iload_n hx hb dX4_sector_1 rfl (lv_at hl 1 rfl) ?_
  refine vx_callv (vx_runV (As := [.int xr]) (rest := []) ⟨hx, hb, hml, hown, hts⟩ (kX4_checkRegion l hlt E (ad 0) (ad 1) (ad 14) (ad 16) (ad 19) (ad 24) rn dy xr (by first | omega | assumption | (intro k h; have := hz k h; omega))) (cwV 1 hts gX4_sector_X4_checkRegion rfl rfl rfl (by decide +kernel) ⟨Nat.le_of_ble_eq_true rfl, Nat.le_of_ble_eq_true rfl⟩) ⟨fb_X, va_recv hE.1 hP (ci := 4) (q0 := 0) rfl rfl, fun U hU hW => ⟨rfl, (by rw [hU]; exact hP.sub (ws' := [((ad 0), .inr (4, [.ref (ad 1), .ref (ad 14), .ref (ad 16), .ref (ad 19), .ref (ad 24), .int (nI rn), .int (nI dy)]))]) [0] rfl), hE.warm hW, hU9.to hS (fun _ h => h.elim) hU hW⟩⟩ rfl rfl hl.1 rfl (lv_room (Nat.le_of_ble_eq_true rfl)) dX4_sector_2 ⟨by first | exact Nat.le_of_ble_eq_true rfl | (show _ ≤ 3; omega), by first | exact Nat.le_of_ble_eq_true rfl | (show _ ≤ 18; omega)⟩) hS (fun q _ h => h.elim) (fun q h => h.elim) (fun q _ h => h.elim)
    (fun Ex ce q9 u9 t H1 locs ht hvm hw hB hz1 hk1 hS hce hcv hcl => ?_) (fun u t H1 locs ht hvm hw hB hz1 hk1 hS => ?_)
  · have hP := hP.ro hk1
    obtain ⟨rfl, x_2⟩ := hw
    exact vx_out (fun x9 hx9 => (htb x9 hx9).elim) hlocks hce hcv hcl (fun t9 ht9 hal9 => ⟨1, ⟨by first | (simp only [tSec, secF, eq_self, if_true, i10f, if_false, if_pos x_2]; done) | (try unfold tSec; try unfold secF; simp only [eq_self, if_true, i10f, if_false, if_pos x_2]; done) | (try unfold tSec; try unfold secF; rfl) | rfl, by decide⟩, hB, hS.F ht9⟩) hS.2.2 (by first | (show _ ≤ 3; omega)) (by first | (show _ ≤ 18; omega))
  · skip
    have hP := hP.ro hk1
    generalize H1 = H at hP hS ⊢
    have c_2 := hw
    have q_2 := hw
    obtain ⟨jr, hjr, rfl⟩ := inF_some q_2 (by omega)
    refine lv_iload_n hx hb dX4_sector_5 rfl (lv_at hl 2 rfl) ?_
    refine vx_callv (vx_runS (As := [.int xs]) (rest := []) ⟨hx, hb, hml, hown, hts⟩ (kX4_checkSector l hlt E xs) (va_cwS 1 hts gX4_sector_X4_checkSector rfl rfl rfl (by decide +kernel) ⟨Nat.le_of_ble_eq_true rfl, Nat.le_of_ble_eq_true rfl⟩) ⟨fb_X, fun U hU hW => ⟨rfl, (by rw [hU]; exact hP.sub (ws' := []) [] rfl), hE.warm hW, hU9.to hS (fun _ h => h.elim) hU hW⟩⟩ rfl rfl hl.1 rfl (lv_room (Nat.le_of_ble_eq_true rfl)) dX4_sector_6 ⟨by first | exact Nat.le_of_ble_eq_true rfl | (show _ ≤ 3; omega), by first | exact Nat.le_of_ble_eq_true rfl | (show _ ≤ 18; omega)⟩) hS (fun q _ h => h.elim) (fun q h => h.elim) (fun q _ h => h.elim)
      (fun Ex ce q9 u9 t H1 locs ht hvm hw hB hz1 hk1 hS hce hcv hcl => ?_) (fun u t H1 locs ht hvm hw hB hz1 hk1 hS => ?_)
    · have hP := hP.ro hk1
      obtain ⟨rfl, x_6⟩ := hw
      exact vx_out (fun x9 hx9 => (htb x9 hx9).elim) hlocks hce hcv hcl (fun t9 ht9 hal9 => ⟨1, ⟨by first | (simp only [tSec, secF, if_neg c_2, nI_clamp (show jr < 2 ^ 31 by omega), eq_self, if_true, i10f, if_false, if_pos x_6]; done) | (try unfold tSec; try unfold secF; simp only [if_neg c_2, nI_clamp (show jr < 2 ^ 31 by omega), eq_self, if_true, i10f, if_false, if_pos x_6]; done) | (try unfold tSec; try unfold secF; rfl) | rfl, by decide⟩, hB, hS.F ht9⟩) hS.2.2 (by first | (show _ ≤ 3; omega)) (by first | (show _ ≤ 18; omega))
    · skip
      have hP := hP.ro hk1
      generalize H1 = H at hP hS ⊢
      have c_6 := hw
      have q_6 : ¬ inF xs 12 = 0 := by rw [← isIn_n 12 (h := 11) (by decide) (by decide)]; exact hw
      obtain ⟨js, hjs, rfl⟩ := inF_some q_6 (by omega)
      refine lv_iload_n hx hb dX4_sector_9 rfl (lv_at hl 3 rfl) ?_
      refine vx_callv (vx_runS (As := [.int xw]) (rest := []) ⟨hx, hb, hml, hown, hts⟩ (kX4_checkNumber l hlt E xw) (va_cwS 1 hts gX4_sector_X4_checkNumber rfl rfl rfl (by decide +kernel) ⟨Nat.le_of_ble_eq_true rfl, Nat.le_of_ble_eq_true rfl⟩) ⟨fb_X, fun U hU hW => ⟨rfl, (by rw [hU]; exact hP.sub (ws' := []) [] rfl), hE.warm hW, hU9.to hS (fun _ h => h.elim) hU hW⟩⟩ rfl rfl hl.1 rfl (lv_room (Nat.le_of_ble_eq_true rfl)) dX4_sector_10 ⟨by first | exact Nat.le_of_ble_eq_true rfl | (show _ ≤ 3; omega), by first | exact Nat.le_of_ble_eq_true rfl | (show _ ≤ 18; omega)⟩) hS (fun q _ h => h.elim) (fun q h => h.elim) (fun q _ h => h.elim)
        (fun Ex ce q9 u9 t H1 locs ht hvm hw hB hz1 hk1 hS hce hcv hcl => ?_) (fun u t H1 locs ht hvm hw hB hz1 hk1 hS => ?_)
      · have hP := hP.ro hk1
        obtain ⟨rfl, x_10⟩ := hw
        exact vx_out (fun x9 hx9 => (htb x9 hx9).elim) hlocks hce hcv hcl (fun t9 ht9 hal9 => ⟨1, ⟨by first | (simp only [tSec, secF, if_neg c_2, nI_clamp (show jr < 2 ^ 31 by omega), if_neg c_6, nI_clamp (show js < 2 ^ 31 by omega), eq_self, if_true, i10f, if_false, if_pos x_10]; done) | (try unfold tSec; try unfold secF; simp only [if_neg c_2, nI_clamp (show jr < 2 ^ 31 by omega), if_neg c_6, nI_clamp (show js < 2 ^ 31 by omega), eq_self, if_true, i10f, if_false, if_pos x_10]; done) | (try unfold tSec; try unfold secF; rfl) | rfl, by decide⟩, hB, hS.F ht9⟩) hS.2.2 (by first | (show _ ≤ 3; omega)) (by first | (show _ ≤ 18; omega))
      · skip
        have hP := hP.ro hk1
        generalize H1 = H at hP hS ⊢
        have c_10 := hw
        have q_10 : ¬ inF xw 5 = 0 := by rw [← isIn_n 5 (h := 4) (by decide) (by decide)]; exact hw
        obtain ⟨jw, hjw, rfl⟩ := inF_some q_10 (by omega)
        refine lv_aload_n hx hb dX4_sector_13 rfl (lv_at hl 0 rfl) ?_
        refine va_get (D := E.1) (ci := 4) (v := .ref (ad 1)) (C := RX4) (T := TX4) (N := 7) hx hb hts inX4 hown hE.1 hP 0 rfl rfl 0 (by decide) f_11 (fun _ h9 => h9) rfl dX4_sector_14 ?_
        refine lv_iload_n hx hb dX4_sector_17 rfl (lv_at hl 1 rfl) ?_
        refine mz_ald hx hb hE.1 hP 1 1 (n := 6) rfl rfl jr (by omega) (by omega) (y := ad (2 + 2 * jr)) rfl dX4_sector_18 ?_
        refine lv_iload_n hx hb dX4_sector_19 rfl (lv_at hl 2 rfl) ?_
        refine lv_iload_n hx hb dX4_sector_20 rfl (lv_at hl 3 rfl) ?_
        refine va_calli (va_runV (As := [.int (nI js), .int (nI jw)]) (rest := []) ⟨hx, hb, hml, hown, hts⟩ (kX2_numberAt l E (ad (2 + 2 * jr)) (ad (3 + 2 * jr)) (S (2 + 2 * jr)) (S (3 + 2 * jr)) js jw (by first | omega | assumption | (intro k h; have := hz k h; omega)) (by first | omega | assumption | (intro k h; have := hz k h; omega))) (cwV 2 hts gX4_sector_X2_numberAt rfl rfl rfl (by decide +kernel) ⟨Nat.le_of_ble_eq_true rfl, Nat.le_of_ble_eq_true rfl⟩) ⟨fb_R, va_recv hE.1 hP (ci := 2) (q0 := 2 + 2 * jr) (a := (ad (2 + 2 * jr))) (fs := [.ref (ad (3 + 2 * jr)), .int ((S (2 + 2 * jr)) 1), .int ((S (2 + 2 * jr)) 2), .int ((S (2 + 2 * jr)) 3), .int ((S (2 + 2 * jr)) 4), .int ((S (2 + 2 * jr)) 5)]) rfl (by rcases (show jr = 0 ∨ jr = 1 ∨ jr = 2 ∨ jr = 3 ∨ jr = 4 ∨ jr = 5 from by omega) with rfl | rfl | rfl | rfl | rfl | rfl <;> rfl), fun U hU hW => ⟨rfl, (by rw [hU]; exact hP.sub (ws' := [((ad (2 + 2 * jr)), .inr (2, [.ref (ad (3 + 2 * jr)), .int ((S (2 + 2 * jr)) 1), .int ((S (2 + 2 * jr)) 2), .int ((S (2 + 2 * jr)) 3), .int ((S (2 + 2 * jr)) 4), .int ((S (2 + 2 * jr)) 5)])), ((ad (3 + 2 * jr)), .inl (E.2.1 0, 60, .inl (S (3 + 2 * jr))))]) [2 + 2 * jr, 3 + 2 * jr] (by rcases (show jr = 0 ∨ jr = 1 ∨ jr = 2 ∨ jr = 3 ∨ jr = 4 ∨ jr = 5 from by omega) with rfl | rfl | rfl | rfl | rfl | rfl <;> rfl)), hE.warm hW⟩⟩ rfl rfl hl.1 rfl (lv_room (Nat.le_of_ble_eq_true rfl)) dX4_sector_21 ⟨by first | exact Nat.le_of_ble_eq_true rfl | (show _ ≤ 3; omega), by first | exact Nat.le_of_ble_eq_true rfl | (show _ ≤ 18; omega)⟩) hS (fun q _ h => h.elim) (fun q h => h.elim) (fun r21_3 u t H1 locs ht hvm hw hB hz1 hk1 hS => ?_)
        have hP := hP.ro hk1
        generalize H1 = H at hP hS ⊢
        subst hw
        refine vx_ret ?_
        exact W.iret (v := (S (3 + 2 * jr)) (js * 5 + jw)) hx hb hr (fun t ht hW => ⟨⟨_, (), rfl, ⟨(by first | (simp only [tSec, secF, if_neg c_2, nI_clamp (show jr < 2 ^ 31 by omega), if_neg c_6, nI_clamp (show js < 2 ^ 31 by omega), if_neg c_10, nI_clamp (show jw < 2 ^ 31 by omega), eq_self, if_true, i10f, if_false]; done) | (try unfold tSec; try unfold secF; simp only [if_neg c_2, nI_clamp (show jr < 2 ^ 31 by omega), if_neg c_6, nI_clamp (show js < 2 ^ 31 by omega), if_neg c_10, nI_clamp (show jw < 2 ^ 31 by omega), eq_self, if_true, i10f, if_false]; done) | (try unfold tSec; try unfold secF; rfl) | rfl), (by first | (simp only [if_neg c_2, nI_clamp (show jr < 2 ^ 31 by omega), if_neg c_6, nI_clamp (show js < 2 ^ 31 by omega), if_neg c_10, nI_clamp (show jw < 2 ^ 31 by omega), eq_self, if_true, i10f, if_false]; done) | rfl)⟩, trivial⟩, hS.F ht⟩) hS.2.2 dX4_sector_24
set_option maxHeartbeats 4000000 in
set_option maxRecDepth 100000 in
theorem kX4_problem (l : Launch) (hlt : l.stackTraces = false) (E : ev_T) (ad : Nat → Nat) (S : Nat → Nat → Int32) (zs : Nat → Nat) (rn : Nat) (dy : Nat) (bn : Nat) (cn : Nat) (tn : Nat) (xr : Int32) (xs : Int32) (xp : Int32) (hrn : rn ≤ 6) (hdy : dy ≤ 60) : vx_Met l yX4_problem wsX4_problem ({ frames := 7, cells := 3, slots := 18, locals := 103 } : Room) (va_Pc [.ref (ad 0), .int xr, .int xs, .int xp] (pr_X E (dC E ad S zs rn dy bn cn tn))) (va_Qi (fun (r : Int32) (_ : Unit) => 0 = tPrb xr xs xp rn ∧ r = prR (rw5 (S (3 + 2 * (Int32.toNatClampNeg xr))) (Int32.toNatClampNeg xs)) (Int32.toNatClampNeg xp)) (fun _ _ => True) (fun _ : Nat => False)) (vx_X (fun (k : Nat) => k = tPrb xr xs xp rn ∧ ¬ k = 0) (fun Ex k _ => Ex = exn ((exm 3 0 0) k)) (fun _ : Nat => False)) 3 18 (fun _ : Nat => False) := by
  refine vx_ofW (cc := cX4_problem) (maxL := 4) (ret := (some .int)) (by decide) rfl ?_
  intro p e s m args below meth c s₁ B hml htb hv
  obtain ⟨rfl, hP, hE, hU9⟩ := hv
  have hx := B.exec
  have hb := B.bytes
  have hr := B.returns
  have hts := atoms_spec (ws := wsX4_problem) B.pre
  have hown : s.vm.findClass RX4 = some m.cls := findClass_of_methodNamed B.named
  have hlocks := B.notSynchronized
  refine mz_start (fun H locs hH hL => ?_)
  have hS : va_S (fun _ : Nat => False) s.heap H locs := by rw [hH, hL]; exact va_S.rf
  have xk_101 := hts (.classLink RX4 101 "java/lang/IndexOutOfBoundsException") (by decide +kernel)
  have xi_101 := hts (.initialized "java/lang/IndexOutOfBoundsException") (by decide +kernel)
  have xa_105 : ∀ w ∈ vx_atS RX4 105 "java/lang/IndexOutOfBoundsException" ["java/lang/RuntimeException", "java/lang/Exception"], w.before _ s = true := ev_at hE (fun w h => hts w ((by decide +kernel : ∀ w ∈ (vx_atS RX4 105 "java/lang/IndexOutOfBoundsException" ["java/lang/RuntimeException", "java/lang/Exception"]).filter goodWord, w ∈ wsX4_problem) w h)) (by decide +kernel)
  have xg_105 : ∀ w ∈ Cond.classLink RX4 101 "java/lang/IndexOutOfBoundsException" :: Cond.initialized "java/lang/IndexOutOfBoundsException" :: vx_atS RX4 105 "java/lang/IndexOutOfBoundsException" ["java/lang/RuntimeException", "java/lang/Exception"], vx_ot w = true := by decide +kernel
  have f_11 := hts (.fieldLink RX4 11 "AvalancheDesk" "regions" "[LAvalancheDesk$Region;") (by decide +kernel)
  have inX4 : ∀ w ∈ wsX40, w ∈ wsX4_problem := by decide +kernel
  have hl := lv_entry ([.ref (ad 0), .int xr, .int xs, .int xp]) (n := 4) (Nat.le_of_ble_eq_true rfl)
  rw [lg_entry_eq]
  generalize (lg_sl ([.ref (ad 0), .int xr, .int xs, .int xp]) ++ List.replicate (4 - (lg_sl ([.ref (ad 0), .int xr, .int xs, .int xp])).length) Slot.unset).toArray = ls at hl ⊢
  have hl : lv_has ls 4 [(0, .ref (ad 0)), (1, .int xr), (2, .int xs), (3, .int xp)] := hl
  have hP : va_P E.1 vwCl (dC E ad S zs rn dy bn cn tn) H := by rw [hH]; exact hP
  refine lv_aload_n hx hb dX4_problem_0 rfl (lv_at hl 0 rfl) ?_
  refine lv_iload_n hx hb dX4_problem_1 rfl (lv_at hl 1 rfl) ?_
  refine vx_callv (vx_runV (As := [.int xr]) (rest := []) ⟨hx, hb, hml, hown, hts⟩ (kX4_checkRegion l hlt E (ad 0) (ad 1) (ad 14) (ad 16) (ad 19) (ad 24) rn dy xr (by first | omega | assumption | (intro k h; have := hz k h; omega))) (cwV 1 hts gX4_problem_X4_checkRegion rfl rfl rfl (by decide +kernel) ⟨Nat.le_of_ble_eq_true rfl, Nat.le_of_ble_eq_true rfl⟩) ⟨fb_X, va_recv hE.1 hP (ci := 4) (q0 := 0) rfl rfl, fun U hU hW => ⟨rfl, (by rw [hU]; exact hP.sub (ws' := [((ad 0), .inr (4, [.ref (ad 1), .ref (ad 14), .ref (ad 16), .ref (ad 19), .ref (ad 24), .int (nI rn), .int (nI dy)]))]) [0] rfl), hE.warm hW, hU9.to hS (fun _ h => h.elim) hU hW⟩⟩ rfl rfl hl.1 rfl (lv_room (Nat.le_of_ble_eq_true rfl)) dX4_problem_2 ⟨by first | exact Nat.le_of_ble_eq_true rfl | (show _ ≤ 3; omega), by first | exact Nat.le_of_ble_eq_true rfl | (show _ ≤ 18; omega)⟩) hS (fun q _ h => h.elim) (fun q h => h.elim) (fun q _ h => h.elim)
    (fun Ex ce q9 u9 t H1 locs ht hvm hw hB hz1 hk1 hS hce hcv hcl => ?_) (fun u t H1 locs ht hvm hw hB hz1 hk1 hS => ?_)
  · have hP := hP.ro hk1
    obtain ⟨rfl, x_2⟩ := hw
    exact vx_out (fun x9 hx9 => (htb x9 hx9).elim) hlocks hce hcv hcl (fun t9 ht9 hal9 => ⟨1, ⟨by first | (simp only [tPrb, secF, eq_self, if_true, i10f, if_false, if_pos x_2]; done) | (try unfold tPrb; try unfold secF; simp only [eq_self, if_true, i10f, if_false, if_pos x_2]; done) | (try unfold tPrb; try unfold secF; rfl) | rfl, by decide⟩, hB, hS.F ht9⟩) hS.2.2 (by first | (show _ ≤ 3; omega)) (by first | (show _ ≤ 18; omega))
  · skip
    have hP := hP.ro hk1
    generalize H1 = H at hP hS ⊢
    have c_2 := hw
    have q_2 := hw
    obtain ⟨jr, hjr, rfl⟩ := inF_some q_2 (by omega)
    refine lv_iload_n hx hb dX4_problem_5 rfl (lv_at hl 2 rfl) ?_
    refine vx_callv (vx_runS (As := [.int xs]) (rest := []) ⟨hx, hb, hml, hown, hts⟩ (kX4_checkSector l hlt E xs) (va_cwS 1 hts gX4_problem_X4_checkSector rfl rfl rfl (by decide +kernel) ⟨Nat.le_of_ble_eq_true rfl, Nat.le_of_ble_eq_true rfl⟩) ⟨fb_X, fun U hU hW => ⟨rfl, (by rw [hU]; exact hP.sub (ws' := []) [] rfl), hE.warm hW, hU9.to hS (fun _ h => h.elim) hU hW⟩⟩ rfl rfl hl.1 rfl (lv_room (Nat.le_of_ble_eq_true rfl)) dX4_problem_6 ⟨by first | exact Nat.le_of_ble_eq_true rfl | (show _ ≤ 3; omega), by first | exact Nat.le_of_ble_eq_true rfl | (show _ ≤ 18; omega)⟩) hS (fun q _ h => h.elim) (fun q h => h.elim) (fun q _ h => h.elim)
      (fun Ex ce q9 u9 t H1 locs ht hvm hw hB hz1 hk1 hS hce hcv hcl => ?_) (fun u t H1 locs ht hvm hw hB hz1 hk1 hS => ?_)
    · have hP := hP.ro hk1
      obtain ⟨rfl, x_6⟩ := hw
      exact vx_out (fun x9 hx9 => (htb x9 hx9).elim) hlocks hce hcv hcl (fun t9 ht9 hal9 => ⟨1, ⟨by first | (simp only [tPrb, secF, if_neg c_2, nI_clamp (show jr < 2 ^ 31 by omega), eq_self, if_true, i10f, if_false, if_pos x_6]; done) | (try unfold tPrb; try unfold secF; simp only [if_neg c_2, nI_clamp (show jr < 2 ^ 31 by omega), eq_self, if_true, i10f, if_false, if_pos x_6]; done) | (try unfold tPrb; try unfold secF; rfl) | rfl, by decide⟩, hB, hS.F ht9⟩) hS.2.2 (by first | (show _ ≤ 3; omega)) (by first | (show _ ≤ 18; omega))
    · skip
      have hP := hP.ro hk1
      generalize H1 = H at hP hS ⊢
      have c_6 := hw
      have q_6 : ¬ inF xs 12 = 0 := by rw [← isIn_n 12 (h := 11) (by decide) (by decide)]; exact hw
      obtain ⟨js, hjs, rfl⟩ := inF_some q_6 (by omega)
      refine lv_iload_n hx hb dX4_problem_9 rfl (lv_at hl 3 rfl) ?_
      refine lv_if_lt (tgt := 18) hx hb dX4_problem_10 (by decide) (fun c_10 => ?_) (fun c_10 => ?_)
      · have q_18 : isInF xp 0 3 = 0 := by first | exact isIn_lo 4 c_10 | exact isIn_hi 4 (by first | rfl | decide) (by first | decide | omega) c_15
        exact vx_throwS (own := RX4) (cls := "java/lang/IndexOutOfBoundsException") (text := "no such problem") (names := ["java/lang/RuntimeException", "java/lang/Exception"]) (ik := 101) (is := 103) (ic := 105) (sa := E.2.2 103) hx hb hlt hown (by decide +kernel) (by decide +kernel) xk_101 xi_101 (hE.2.2.1 (103, "no such problem") (by decide +kernel)) xa_105 xg_105 hU9.1 hU9.2 hS (hl.1.trans hml.symm) dX4_problem_18 dX4_problem_21 dX4_problem_22 dX4_problem_24 dX4_problem_27 (fun x9 hx9 => (htb x9 hx9).elim) (Nat.le_of_ble_eq_true rfl) (Nat.le_of_ble_eq_true rfl) (by first | exact Nat.le_of_ble_eq_true rfl | (show _ ≤ 3; omega)) (by first | exact Nat.le_of_ble_eq_true rfl | (show _ ≤ 18; omega)) hlocks (fun t hal h1 h2 => ⟨1, ⟨by first | (simp only [tPrb, secF, if_neg c_2, nI_clamp (show jr < 2 ^ 31 by omega), if_neg c_6, nI_clamp (show js < 2 ^ 31 by omega), if_pos c_10, if_pos q_18, eq_self, if_true, i10f, if_false]; done) | (try unfold tPrb; try unfold secF; simp only [if_neg c_2, nI_clamp (show jr < 2 ^ 31 by omega), if_neg c_6, nI_clamp (show js < 2 ^ 31 by omega), if_pos c_10, if_pos q_18, eq_self, if_true, i10f, if_false]; done) | (try unfold tPrb; try unfold secF; rfl) | rfl, by decide⟩, rfl, hS.Ft h1 h2⟩) hS.2.2 (by omega) (by omega)
      · refine lv_iload_n hx hb dX4_problem_13 rfl (lv_at hl 3 rfl) ?_
        refine lv_iconst (v := 4) hx hb dX4_problem_14 (by decide) ?_
        refine mz_lt (tgt := 28) hx hb dX4_problem_15 (by decide) (fun c_15 => ?_) (fun c_15 => ?_)
        · have q_28 : ¬ isInF xp 0 3 = 0 := isIn_ok 4 (by first | rfl | decide) (by first | decide | omega) c_10 c_15
          have p_28 : ¬ inF xp 4 = 0 := by rw [← isIn_n 4 (h := 3) (by first | rfl | decide) (by first | decide | omega)]; exact q_28
          obtain ⟨jp, hjp, rfl⟩ := inF_some p_28 (by first | decide | omega)
          refine lv_aload_n hx hb dX4_problem_28 rfl (lv_at hl 0 rfl) ?_
          refine va_get (D := E.1) (ci := 4) (v := .ref (ad 1)) (C := RX4) (T := TX4) (N := 7) hx hb hts inX4 hown hE.1 hP 0 rfl rfl 0 (by decide) f_11 (fun _ h9 => h9) rfl dX4_problem_29 ?_
          refine lv_iload_n hx hb dX4_problem_32 rfl (lv_at hl 1 rfl) ?_
          refine mz_ald hx hb hE.1 hP 1 1 (n := 6) rfl rfl jr (by omega) (by omega) (y := ad (2 + 2 * jr)) rfl dX4_problem_33 ?_
          refine lv_iload_n hx hb dX4_problem_34 rfl (lv_at hl 2 rfl) ?_
          refine lv_iload_n hx hb dX4_problem_35 rfl (lv_at hl 3 rfl) ?_
          refine va_calli (va_runV (As := [.int (nI js), .int (nI jp)]) (rest := []) ⟨hx, hb, hml, hown, hts⟩ (kX2_problemAt l E (ad (2 + 2 * jr)) (ad (3 + 2 * jr)) (S (2 + 2 * jr)) (S (3 + 2 * jr)) js jp (by first | omega | assumption | (intro k h; have := hz k h; omega)) (by first | omega | assumption | (intro k h; have := hz k h; omega))) (cwV 2 hts gX4_problem_X2_problemAt rfl rfl rfl (by decide +kernel) ⟨Nat.le_of_ble_eq_true rfl, Nat.le_of_ble_eq_true rfl⟩) ⟨fb_R, va_recv hE.1 hP (ci := 2) (q0 := 2 + 2 * jr) (a := (ad (2 + 2 * jr))) (fs := [.ref (ad (3 + 2 * jr)), .int ((S (2 + 2 * jr)) 1), .int ((S (2 + 2 * jr)) 2), .int ((S (2 + 2 * jr)) 3), .int ((S (2 + 2 * jr)) 4), .int ((S (2 + 2 * jr)) 5)]) rfl (by rcases (show jr = 0 ∨ jr = 1 ∨ jr = 2 ∨ jr = 3 ∨ jr = 4 ∨ jr = 5 from by omega) with rfl | rfl | rfl | rfl | rfl | rfl <;> rfl), fun U hU hW => ⟨rfl, (by rw [hU]; exact hP.sub (ws' := [((ad (2 + 2 * jr)), .inr (2, [.ref (ad (3 + 2 * jr)), .int ((S (2 + 2 * jr)) 1), .int ((S (2 + 2 * jr)) 2), .int ((S (2 + 2 * jr)) 3), .int ((S (2 + 2 * jr)) 4), .int ((S (2 + 2 * jr)) 5)])), ((ad (3 + 2 * jr)), .inl (E.2.1 0, 60, .inl (S (3 + 2 * jr))))]) [2 + 2 * jr, 3 + 2 * jr] (by rcases (show jr = 0 ∨ jr = 1 ∨ jr = 2 ∨ jr = 3 ∨ jr = 4 ∨ jr = 5 from by omega) with rfl | rfl | rfl | rfl | rfl | rfl <;> rfl)), hE.warm hW⟩⟩ rfl rfl hl.1 rfl (lv_room (Nat.le_of_ble_eq_true rfl)) dX4_problem_36 ⟨by first | exact Nat.le_of_ble_eq_true rfl | (show _ ≤ 3; omega), by first | exact Nat.le_of_ble_eq_true rfl | (show _ ≤ 18; omega)⟩) hS (fun q _ h => h.elim) (fun q h => h.elim) (fun r36_2 u t H1 locs ht hvm hw hB hz1 hk1 hS => ?_)
          have hP := hP.ro hk1
          generalize H1 = H at hP hS ⊢
          subst hw
          refine W.widen (k := 3) (n := 18) (by omega) (by omega) ?_
          refine vx_ret ?_
          exact W.iret (v := prR (rw5 (S (3 + 2 * jr)) js) jp) hx hb hr (fun t ht hW => ⟨⟨_, (), rfl, ⟨(by first | (simp only [tPrb, secF, if_neg c_2, nI_clamp (show jr < 2 ^ 31 by omega), if_neg c_6, nI_clamp (show js < 2 ^ 31 by omega), if_neg c_10, if_pos c_15, if_neg q_28, nI_clamp (show jp < 2 ^ 31 by omega), eq_self, if_true, i10f, if_false]; done) | (try unfold tPrb; try unfold secF; simp only [if_neg c_2, nI_clamp (show jr < 2 ^ 31 by omega), if_neg c_6, nI_clamp (show js < 2 ^ 31 by omega), if_neg c_10, if_pos c_15, if_neg q_28, nI_clamp (show jp < 2 ^ 31 by omega), eq_self, if_true, i10f, if_false]; done) | (try unfold tPrb; try unfold secF; rfl) | rfl), (by first | (simp only [if_neg c_2, nI_clamp (show jr < 2 ^ 31 by omega), if_neg c_6, nI_clamp (show js < 2 ^ 31 by omega), if_neg c_10, if_pos c_15, if_neg q_28, nI_clamp (show jp < 2 ^ 31 by omega), eq_self, if_true, i10f, if_false]; done) | rfl)⟩, trivial⟩, hS.F ht⟩) hS.2.2 dX4_problem_39
        · have q_18 : isInF xp 0 3 = 0 := by first | exact isIn_lo 4 c_10 | exact isIn_hi 4 (by first | rfl | decide) (by first | decide | omega) c_15
          exact vx_throwS (own := RX4) (cls := "java/lang/IndexOutOfBoundsException") (text := "no such problem") (names := ["java/lang/RuntimeException", "java/lang/Exception"]) (ik := 101) (is := 103) (ic := 105) (sa := E.2.2 103) hx hb hlt hown (by decide +kernel) (by decide +kernel) xk_101 xi_101 (hE.2.2.1 (103, "no such problem") (by decide +kernel)) xa_105 xg_105 hU9.1 hU9.2 hS (hl.1.trans hml.symm) dX4_problem_18 dX4_problem_21 dX4_problem_22 dX4_problem_24 dX4_problem_27 (fun x9 hx9 => (htb x9 hx9).elim) (Nat.le_of_ble_eq_true rfl) (Nat.le_of_ble_eq_true rfl) (by first | exact Nat.le_of_ble_eq_true rfl | (show _ ≤ 3; omega)) (by first | exact Nat.le_of_ble_eq_true rfl | (show _ ≤ 18; omega)) hlocks (fun t hal h1 h2 => ⟨1, ⟨by first | (simp only [tPrb, secF, if_neg c_2, nI_clamp (show jr < 2 ^ 31 by omega), if_neg c_6, nI_clamp (show js < 2 ^ 31 by omega), if_neg c_10, if_neg c_15, if_pos q_18, eq_self, if_true, i10f, if_false]; done) | (try unfold tPrb; try unfold secF; simp only [if_neg c_2, nI_clamp (show jr < 2 ^ 31 by omega), if_neg c_6, nI_clamp (show js < 2 ^ 31 by omega), if_neg c_10, if_neg c_15, if_pos q_18, eq_self, if_true, i10f, if_false]; done) | (try unfold tPrb; try unfold secF; rfl) | rfl, by decide⟩, rfl, hS.Ft h1 h2⟩) hS.2.2 (by omega) (by omega)
set_option maxHeartbeats 4000000 in
set_option maxRecDepth 100000 in
theorem kX4_danger (l : Launch) (hlt : l.stackTraces = false) (E : ev_T) (ad : Nat → Nat) (S : Nat → Nat → Int32) (zs : Nat → Nat) (rn : Nat) (dy : Nat) (bn : Nat) (cn : Nat) (tn : Nat) (xr : Int32) (xs : Int32) (xb : Int32) (hrn : rn ≤ 6) (hdy : dy ≤ 60) : vx_Met l yX4_danger wsX4_danger ({ frames := 7, cells := 2, slots := 12, locals := 103 } : Room) (va_Pc [.ref (ad 0), .int xr, .int xs, .int xb] (pr_X E (dC E ad S zs rn dy bn cn tn))) (va_Qi (fun (r : Int32) (_ : Unit) => 0 = tDan xr xs rn ∧ r = if xb = 0 then dngA (rw5 (S (3 + 2 * (Int32.toNatClampNeg xr))) (Int32.toNatClampNeg xs)) else lvD (dngA (rw5 (S (3 + 2 * (Int32.toNatClampNeg xr))) (Int32.toNatClampNeg xs)))) (fun _ _ => True) (fun _ : Nat => False)) (vx_X (fun (k : Nat) => k = tDan xr xs rn ∧ ¬ k = 0) (fun Ex k _ => Ex = exn ((exm 3 0 0) k)) (fun _ : Nat => False)) 2 12 (fun _ : Nat => False) := by
  refine vx_ofW (cc := cX4_danger) (maxL := 5) (ret := (some .int)) (by decide) rfl ?_
  intro p e s m args below meth c s₁ B hml htb hv
  obtain ⟨rfl, hP, hE, hU9⟩ := hv
  have hx := B.exec
  have hb := B.bytes
  have hr := B.returns
  have hts := atoms_spec (ws := wsX4_danger) B.pre
  have hown : s.vm.findClass RX4 = some m.cls := findClass_of_methodNamed B.named
  have hlocks := B.notSynchronized
  refine mz_start (fun H locs hH hL => ?_)
  have hS : va_S (fun _ : Nat => False) s.heap H locs := by rw [hH, hL]; exact va_S.rf
  have f_11 := hts (.fieldLink RX4 11 "AvalancheDesk" "regions" "[LAvalancheDesk$Region;") (by decide +kernel)
  have inX4 : ∀ w ∈ wsX40, w ∈ wsX4_danger := by decide +kernel
  have hl := lv_entry ([.ref (ad 0), .int xr, .int xs, .int xb]) (n := 5) (Nat.le_of_ble_eq_true rfl)
  rw [lg_entry_eq]
  generalize (lg_sl ([.ref (ad 0), .int xr, .int xs, .int xb]) ++ List.replicate (5 - (lg_sl ([.ref (ad 0), .int xr, .int xs, .int xb])).length) Slot.unset).toArray = ls at hl ⊢
  have hl : lv_has ls 5 [(0, .ref (ad 0)), (1, .int xr), (2, .int xs), (3, .int xb)] := hl
  have hP : va_P E.1 vwCl (dC E ad S zs rn dy bn cn tn) H := by rw [hH]; exact hP
  refine lv_aload_n hx hb dX4_danger_0 rfl (lv_at hl 0 rfl) ?_
  refine lv_iload_n hx hb dX4_danger_1 rfl (lv_at hl 1 rfl) ?_
  refine vx_callv (vx_runV (As := [.int xr]) (rest := []) ⟨hx, hb, hml, hown, hts⟩ (kX4_checkRegion l hlt E (ad 0) (ad 1) (ad 14) (ad 16) (ad 19) (ad 24) rn dy xr (by first | omega | assumption | (intro k h; have := hz k h; omega))) (cwV 1 hts gX4_danger_X4_checkRegion rfl rfl rfl (by decide +kernel) ⟨Nat.le_of_ble_eq_true rfl, Nat.le_of_ble_eq_true rfl⟩) ⟨fb_X, va_recv hE.1 hP (ci := 4) (q0 := 0) rfl rfl, fun U hU hW => ⟨rfl, (by rw [hU]; exact hP.sub (ws' := [((ad 0), .inr (4, [.ref (ad 1), .ref (ad 14), .ref (ad 16), .ref (ad 19), .ref (ad 24), .int (nI rn), .int (nI dy)]))]) [0] rfl), hE.warm hW, hU9.to hS (fun _ h => h.elim) hU hW⟩⟩ rfl rfl hl.1 rfl (lv_room (Nat.le_of_ble_eq_true rfl)) dX4_danger_2 ⟨by first | exact Nat.le_of_ble_eq_true rfl | (show _ ≤ 2; omega), by first | exact Nat.le_of_ble_eq_true rfl | (show _ ≤ 12; omega)⟩) hS (fun q _ h => h.elim) (fun q h => h.elim) (fun q _ h => h.elim)
    (fun Ex ce q9 u9 t H1 locs ht hvm hw hB hz1 hk1 hS hce hcv hcl => ?_) (fun u t H1 locs ht hvm hw hB hz1 hk1 hS => ?_)
  · have hP := hP.ro hk1
    obtain ⟨rfl, x_2⟩ := hw
    exact vx_out (fun x9 hx9 => (htb x9 hx9).elim) hlocks hce hcv hcl (fun t9 ht9 hal9 => ⟨1, ⟨by first | (simp only [tDan, secF, eq_self, if_true, i10f, if_false, if_pos x_2]; done) | (try unfold tDan; try unfold secF; simp only [eq_self, if_true, i10f, if_false, if_pos x_2]; done) | (try unfold tDan; try unfold secF; rfl) | rfl, by decide⟩, hB, hS.F ht9⟩) hS.2.2 (by first | (show _ ≤ 2; omega)) (by first | (show _ ≤ 12; omega))
  · skip
    have hP := hP.ro hk1
    generalize H1 = H at hP hS ⊢
    have c_2 := hw
    have q_2 := hw
    obtain ⟨jr, hjr, rfl⟩ := inF_some q_2 (by omega)
    refine lv_iload_n hx hb dX4_danger_5 rfl (lv_at hl 2 rfl) ?_
    refine vx_callv (vx_runS (As := [.int xs]) (rest := []) ⟨hx, hb, hml, hown, hts⟩ (kX4_checkSector l hlt E xs) (va_cwS 1 hts gX4_danger_X4_checkSector rfl rfl rfl (by decide +kernel) ⟨Nat.le_of_ble_eq_true rfl, Nat.le_of_ble_eq_true rfl⟩) ⟨fb_X, fun U hU hW => ⟨rfl, (by rw [hU]; exact hP.sub (ws' := []) [] rfl), hE.warm hW, hU9.to hS (fun _ h => h.elim) hU hW⟩⟩ rfl rfl hl.1 rfl (lv_room (Nat.le_of_ble_eq_true rfl)) dX4_danger_6 ⟨by first | exact Nat.le_of_ble_eq_true rfl | (show _ ≤ 2; omega), by first | exact Nat.le_of_ble_eq_true rfl | (show _ ≤ 12; omega)⟩) hS (fun q _ h => h.elim) (fun q h => h.elim) (fun q _ h => h.elim)
      (fun Ex ce q9 u9 t H1 locs ht hvm hw hB hz1 hk1 hS hce hcv hcl => ?_) (fun u t H1 locs ht hvm hw hB hz1 hk1 hS => ?_)
    · have hP := hP.ro hk1
      obtain ⟨rfl, x_6⟩ := hw
      exact vx_out (fun x9 hx9 => (htb x9 hx9).elim) hlocks hce hcv hcl (fun t9 ht9 hal9 => ⟨1, ⟨by first | (simp only [tDan, secF, if_neg c_2, nI_clamp (show jr < 2 ^ 31 by omega), eq_self, if_true, i10f, if_false, if_pos x_6]; done) | (try unfold tDan; try unfold secF; simp only [if_neg c_2, nI_clamp (show jr < 2 ^ 31 by omega), eq_self, if_true, i10f, if_false, if_pos x_6]; done) | (try unfold tDan; try unfold secF; rfl) | rfl, by decide⟩, hB, hS.F ht9⟩) hS.2.2 (by first | (show _ ≤ 2; omega)) (by first | (show _ ≤ 12; omega))
    · skip
      have hP := hP.ro hk1
      generalize H1 = H at hP hS ⊢
      have c_6 := hw
      have q_6 : ¬ inF xs 12 = 0 := by rw [← isIn_n 12 (h := 11) (by decide) (by decide)]; exact hw
      obtain ⟨js, hjs, rfl⟩ := inF_some q_6 (by omega)
      refine lv_aload_n hx hb dX4_danger_9 rfl (lv_at hl 0 rfl) ?_
      refine va_get (D := E.1) (ci := 4) (v := .ref (ad 1)) (C := RX4) (T := TX4) (N := 7) hx hb hts inX4 hown hE.1 hP 0 rfl rfl 0 (by decide) f_11 (fun _ h9 => h9) rfl dX4_danger_10 ?_
      refine lv_iload_n hx hb dX4_danger_13 rfl (lv_at hl 1 rfl) ?_
      refine mz_ald hx hb hE.1 hP 1 1 (n := 6) rfl rfl jr (by omega) (by omega) (y := ad (2 + 2 * jr)) rfl dX4_danger_14 ?_
      refine lv_iload_n hx hb dX4_danger_15 rfl (lv_at hl 2 rfl) ?_
      refine va_calli (va_runV (As := [.int (nI js)]) (rest := []) ⟨hx, hb, hml, hown, hts⟩ (kX2_dangerAt l E (ad (2 + 2 * jr)) (ad (3 + 2 * jr)) (S (2 + 2 * jr)) (S (3 + 2 * jr)) js (by first | omega | assumption | (intro k h; have := hz k h; omega))) (cwV 1 hts gX4_danger_X2_dangerAt rfl rfl rfl (by decide +kernel) ⟨Nat.le_of_ble_eq_true rfl, Nat.le_of_ble_eq_true rfl⟩) ⟨fb_R, va_recv hE.1 hP (ci := 2) (q0 := 2 + 2 * jr) (a := (ad (2 + 2 * jr))) (fs := [.ref (ad (3 + 2 * jr)), .int ((S (2 + 2 * jr)) 1), .int ((S (2 + 2 * jr)) 2), .int ((S (2 + 2 * jr)) 3), .int ((S (2 + 2 * jr)) 4), .int ((S (2 + 2 * jr)) 5)]) rfl (by rcases (show jr = 0 ∨ jr = 1 ∨ jr = 2 ∨ jr = 3 ∨ jr = 4 ∨ jr = 5 from by omega) with rfl | rfl | rfl | rfl | rfl | rfl <;> rfl), fun U hU hW => ⟨rfl, (by rw [hU]; exact hP.sub (ws' := [((ad (2 + 2 * jr)), .inr (2, [.ref (ad (3 + 2 * jr)), .int ((S (2 + 2 * jr)) 1), .int ((S (2 + 2 * jr)) 2), .int ((S (2 + 2 * jr)) 3), .int ((S (2 + 2 * jr)) 4), .int ((S (2 + 2 * jr)) 5)])), ((ad (3 + 2 * jr)), .inl (E.2.1 0, 60, .inl (S (3 + 2 * jr))))]) [2 + 2 * jr, 3 + 2 * jr] (by rcases (show jr = 0 ∨ jr = 1 ∨ jr = 2 ∨ jr = 3 ∨ jr = 4 ∨ jr = 5 from by omega) with rfl | rfl | rfl | rfl | rfl | rfl <;> rfl)), hE.warm hW⟩⟩ rfl rfl hl.1 rfl (lv_room (Nat.le_of_ble_eq_true rfl)) dX4_danger_16 ⟨by first | exact Nat.le_of_ble_eq_true rfl | (show _ ≤ 2; omega), by first | exact Nat.le_of_ble_eq_true rfl | (show _ ≤ 12; omega)⟩) hS (fun q _ h => h.elim) (fun q h => h.elim) (fun r16_2 u t H1 locs ht hvm hw hB hz1 hk1 hS => ?_)
      have hP := hP.ro hk1
      generalize H1 = H at hP hS ⊢
      subst hw
      refine lv_istore (lv' := [(4, .int (dngA (rw5 (S (3 + 2 * jr)) js))), (0, .ref (ad 0)), (1, .int (nI jr)), (2, .int (nI js)), (3, .int xb)]) hx hb dX4_danger_19 hl (by decide) rfl (fun ls hl => ?_)
      refine lv_iload_n hx hb dX4_danger_21 rfl (lv_at hl 4 rfl) ?_
      refine lv_if_eq (tgt := 33) hx hb dX4_danger_22 (by decide) (fun c_22 => ?_) (fun c_22 => ?_)
      · refine lv_iload hx hb dX4_danger_33 (lv_at hl 0 rfl) ?_
        refine vx_ret ?_
        exact W.iret (v := dngA (rw5 (S (3 + 2 * jr)) js)) hx hb hr (fun t ht hW => ⟨⟨_, (), rfl, ⟨(by first | (simp only [tDan, secF, if_neg c_2, nI_clamp (show jr < 2 ^ 31 by omega), if_neg c_6, nI_clamp (show js < 2 ^ 31 by omega), if_pos c_22, eq_self, if_true, i10f, if_false]; done) | (try unfold tDan; try unfold secF; simp only [if_neg c_2, nI_clamp (show jr < 2 ^ 31 by omega), if_neg c_6, nI_clamp (show js < 2 ^ 31 by omega), if_pos c_22, eq_self, if_true, i10f, if_false]; done) | (try unfold tDan; try unfold secF; rfl) | rfl), (by first | (simp only [if_neg c_2, nI_clamp (show jr < 2 ^ 31 by omega), if_neg c_6, nI_clamp (show js < 2 ^ 31 by omega), if_pos c_22, eq_self, if_true, i10f, if_false]; done) | rfl)⟩, trivial⟩, hS.F ht⟩) hS.2.2 dX4_danger_35
      · refine lv_iload hx hb dX4_danger_25 (lv_at hl 0 rfl) ?_
        refine va_calli (va_runS (As := [.int (dngA (rw5 (S (3 + 2 * jr)) js))]) (rest := []) ⟨hx, hb, hml, hown, hts⟩ (kX2_levelOfDanger l E (dngA (rw5 (S (3 + 2 * jr)) js))) (va_cwS 1 hts gX4_danger_X2_levelOfDanger rfl rfl rfl (by decide +kernel) ⟨Nat.le_of_ble_eq_true rfl, Nat.le_of_ble_eq_true rfl⟩) ⟨fb_0, fun U hU hW => ⟨rfl, trivial⟩⟩ rfl rfl hl.1 rfl (lv_room (Nat.le_of_ble_eq_true rfl)) dX4_danger_27 ⟨by first | exact Nat.le_of_ble_eq_true rfl | (show _ ≤ 2; omega), by first | exact Nat.le_of_ble_eq_true rfl | (show _ ≤ 12; omega)⟩) hS (fun q _ h => h.elim) (fun q h => h.elim) (fun r27_3 u t H1 locs ht hvm hw hB hz1 hk1 hS => ?_)
        have hP := hP.ro hk1
        generalize H1 = H at hP hS ⊢
        subst hw
        refine lv_goto (tgt := 35) hx hb dX4_danger_30 (by decide) ?_
        refine vx_ret ?_
        exact W.iret (v := lvD (dngA (rw5 (S (3 + 2 * jr)) js))) hx hb hr (fun t ht hW => ⟨⟨_, (), rfl, ⟨(by first | (simp only [tDan, secF, if_neg c_2, nI_clamp (show jr < 2 ^ 31 by omega), if_neg c_6, nI_clamp (show js < 2 ^ 31 by omega), if_neg c_22, eq_self, if_true, i10f, if_false]; done) | (try unfold tDan; try unfold secF; simp only [if_neg c_2, nI_clamp (show jr < 2 ^ 31 by omega), if_neg c_6, nI_clamp (show js < 2 ^ 31 by omega), if_neg c_22, eq_self, if_true, i10f, if_false]; done) | (try unfold tDan; try unfold secF; rfl) | rfl), (by first | (simp only [if_neg c_2, nI_clamp (show jr < 2 ^ 31 by omega), if_neg c_6, nI_clamp (show js < 2 ^ 31 by omega), if_neg c_22, eq_self, if_true, i10f, if_false]; done) | rfl)⟩, trivial⟩, hS.F ht⟩) hS.2.2 dX4_danger_35
set_option maxHeartbeats 4000000 in
set_option maxRecDepth 100000 in
theorem kX4_level (l : Launch) (hlt : l.stackTraces = false) (E : ev_T) (ad : Nat → Nat) (S : Nat → Nat → Int32) (zs : Nat → Nat) (rn : Nat) (dy : Nat) (bn : Nat) (cn : Nat) (tn : Nat) (xr : Int32) (hrn : rn ≤ 6) (hdy : dy ≤ 60) : vx_Met l yX4_level wsX4_level ({ frames := 7, cells := 1, slots := 6, locals := 103 } : Room) (va_Pc [.ref (ad 0), .int xr] (pr_X E (dC E ad S zs rn dy bn cn tn))) (va_Qi (fun (r : Int32) (_ : Unit) => 0 = tReg xr rn ∧ r = levA (S (3 + 2 * (Int32.toNatClampNeg xr)))) (fun _ _ => True) (fun _ : Nat => False)) (vx_X (fun (k : Nat) => k = tReg xr rn ∧ ¬ k = 0) (fun Ex k _ => Ex = exn ((exm 3 0 0) k)) (fun _ : Nat => False)) 1 6 (fun _ : Nat => False) := by
  refine vx_ofW (cc := cX4_level) (maxL := 2) (ret := (some .int)) (by decide) rfl ?_
  intro p e s m args below meth c s₁ B hml htb hv
  obtain ⟨rfl, hP, hE, hU9⟩ := hv
  have hx := B.exec
  have hb := B.bytes
  have hr := B.returns
  have hts := atoms_spec (ws := wsX4_level) B.pre
  have hown : s.vm.findClass RX4 = some m.cls := findClass_of_methodNamed B.named
  have hlocks := B.notSynchronized
  refine mz_start (fun H locs hH hL => ?_)
  have hS : va_S (fun _ : Nat => False) s.heap H locs := by rw [hH, hL]; exact va_S.rf
  have f_11 := hts (.fieldLink RX4 11 "AvalancheDesk" "regions" "[LAvalancheDesk$Region;") (by decide +kernel)
  have inX4 : ∀ w ∈ wsX40, w ∈ wsX4_level := by decide +kernel
  have hl := lv_entry ([.ref (ad 0), .int xr]) (n := 2) (Nat.le_of_ble_eq_true rfl)
  rw [lg_entry_eq]
  generalize (lg_sl ([.ref (ad 0), .int xr]) ++ List.replicate (2 - (lg_sl ([.ref (ad 0), .int xr])).length) Slot.unset).toArray = ls at hl ⊢
  have hl : lv_has ls 2 [(0, .ref (ad 0)), (1, .int xr)] := hl
  have hP : va_P E.1 vwCl (dC E ad S zs rn dy bn cn tn) H := by rw [hH]; exact hP
  refine lv_aload_n hx hb dX4_level_0 rfl (lv_at hl 0 rfl) ?_
  refine lv_iload_n hx hb dX4_level_1 rfl (lv_at hl 1 rfl) ?_
  refine vx_callv (vx_runV (As := [.int xr]) (rest := []) ⟨hx, hb, hml, hown, hts⟩ (kX4_checkRegion l hlt E (ad 0) (ad 1) (ad 14) (ad 16) (ad 19) (ad 24) rn dy xr (by first | omega | assumption | (intro k h; have := hz k h; omega))) (cwV 1 hts gX4_level_X4_checkRegion rfl rfl rfl (by decide +kernel) ⟨Nat.le_of_ble_eq_true rfl, Nat.le_of_ble_eq_true rfl⟩) ⟨fb_X, va_recv hE.1 hP (ci := 4) (q0 := 0) rfl rfl, fun U hU hW => ⟨rfl, (by rw [hU]; exact hP.sub (ws' := [((ad 0), .inr (4, [.ref (ad 1), .ref (ad 14), .ref (ad 16), .ref (ad 19), .ref (ad 24), .int (nI rn), .int (nI dy)]))]) [0] rfl), hE.warm hW, hU9.to hS (fun _ h => h.elim) hU hW⟩⟩ rfl rfl hl.1 rfl (lv_room (Nat.le_of_ble_eq_true rfl)) dX4_level_2 ⟨by first | exact Nat.le_of_ble_eq_true rfl | (show _ ≤ 1; omega), by first | exact Nat.le_of_ble_eq_true rfl | (show _ ≤ 6; omega)⟩) hS (fun q _ h => h.elim) (fun q h => h.elim) (fun q _ h => h.elim)
    (fun Ex ce q9 u9 t H1 locs ht hvm hw hB hz1 hk1 hS hce hcv hcl => ?_) (fun u t H1 locs ht hvm hw hB hz1 hk1 hS => ?_)
  · have hP := hP.ro hk1
    obtain ⟨rfl, x_2⟩ := hw
    exact vx_out (fun x9 hx9 => (htb x9 hx9).elim) hlocks hce hcv hcl (fun t9 ht9 hal9 => ⟨1, ⟨by first | (simp only [tReg, eq_self, if_true, i10f, if_false, if_pos x_2]; done) | (try unfold tReg; simp only [eq_self, if_true, i10f, if_false, if_pos x_2]; done) | (try unfold tReg; rfl) | rfl, by decide⟩, hB, hS.F ht9⟩) hS.2.2 (by first | (show _ ≤ 1; omega)) (by first | (show _ ≤ 6; omega))
  · skip
    have hP := hP.ro hk1
    generalize H1 = H at hP hS ⊢
    have c_2 := hw
    have q_2 := hw
    obtain ⟨jr, hjr, rfl⟩ := inF_some q_2 (by omega)
    refine lv_aload_n hx hb dX4_level_5 rfl (lv_at hl 0 rfl) ?_
    refine va_get (D := E.1) (ci := 4) (v := .ref (ad 1)) (C := RX4) (T := TX4) (N := 7) hx hb hts inX4 hown hE.1 hP 0 rfl rfl 0 (by decide) f_11 (fun _ h9 => h9) rfl dX4_level_6 ?_
    refine lv_iload_n hx hb dX4_level_9 rfl (lv_at hl 1 rfl) ?_
    refine mz_ald hx hb hE.1 hP 1 1 (n := 6) rfl rfl jr (by omega) (by omega) (y := ad (2 + 2 * jr)) rfl dX4_level_10 ?_
    refine va_calli (va_runV (As := []) (rest := []) ⟨hx, hb, hml, hown, hts⟩ (kX2_findLevel l E (ad (2 + 2 * jr)) (ad (3 + 2 * jr)) (S (2 + 2 * jr)) (S (3 + 2 * jr))) (cwV 0 hts gX4_level_X2_findLevel rfl rfl rfl (by decide +kernel) ⟨Nat.le_of_ble_eq_true rfl, Nat.le_of_ble_eq_true rfl⟩) ⟨fb_R, va_recv hE.1 hP (ci := 2) (q0 := 2 + 2 * jr) (a := (ad (2 + 2 * jr))) (fs := [.ref (ad (3 + 2 * jr)), .int ((S (2 + 2 * jr)) 1), .int ((S (2 + 2 * jr)) 2), .int ((S (2 + 2 * jr)) 3), .int ((S (2 + 2 * jr)) 4), .int ((S (2 + 2 * jr)) 5)]) rfl (by rcases (show jr = 0 ∨ jr = 1 ∨ jr = 2 ∨ jr = 3 ∨ jr = 4 ∨ jr = 5 from by omega) with rfl | rfl | rfl | rfl | rfl | rfl <;> rfl), fun U hU hW => ⟨rfl, (by rw [hU]; exact hP.sub (ws' := [((ad (2 + 2 * jr)), .inr (2, [.ref (ad (3 + 2 * jr)), .int ((S (2 + 2 * jr)) 1), .int ((S (2 + 2 * jr)) 2), .int ((S (2 + 2 * jr)) 3), .int ((S (2 + 2 * jr)) 4), .int ((S (2 + 2 * jr)) 5)])), ((ad (3 + 2 * jr)), .inl (E.2.1 0, 60, .inl (S (3 + 2 * jr))))]) [2 + 2 * jr, 3 + 2 * jr] (by rcases (show jr = 0 ∨ jr = 1 ∨ jr = 2 ∨ jr = 3 ∨ jr = 4 ∨ jr = 5 from by omega) with rfl | rfl | rfl | rfl | rfl | rfl <;> rfl)), hE.warm hW⟩⟩ rfl rfl hl.1 rfl (lv_room (Nat.le_of_ble_eq_true rfl)) dX4_level_11 ⟨by first | exact Nat.le_of_ble_eq_true rfl | (show _ ≤ 1; omega), by first | exact Nat.le_of_ble_eq_true rfl | (show _ ≤ 6; omega)⟩) hS (fun q _ h => h.elim) (fun q h => h.elim) (fun r11_1 u t H1 locs ht hvm hw hB hz1 hk1 hS => ?_)
    have hP := hP.ro hk1
    generalize H1 = H at hP hS ⊢
    subst hw
    refine vx_ret ?_
    exact W.iret (v := levA (S (3 + 2 * jr))) hx hb hr (fun t ht hW => ⟨⟨_, (), rfl, ⟨(by first | (simp only [tReg, if_neg c_2, nI_clamp (show jr < 2 ^ 31 by omega), eq_self, if_true, i10f, if_false]; done) | (try unfold tReg; simp only [if_neg c_2, nI_clamp (show jr < 2 ^ 31 by omega), eq_self, if_true, i10f, if_false]; done) | (try unfold tReg; rfl) | rfl), (by first | (simp only [if_neg c_2, nI_clamp (show jr < 2 ^ 31 by omega), eq_self, if_true, i10f, if_false]; done) | rfl)⟩, trivial⟩, hS.F ht⟩) hS.2.2 dX4_level_14
set_option maxHeartbeats 4000000 in
set_option maxRecDepth 100000 in
theorem kX4_core (l : Launch) (hlt : l.stackTraces = false) (E : ev_T) (ad : Nat → Nat) (S : Nat → Nat → Int32) (zs : Nat → Nat) (rn : Nat) (dy : Nat) (bn : Nat) (cn : Nat) (tn : Nat) (xr : Int32) (hrn : rn ≤ 6) (hdy : dy ≤ 60) : vx_Met l yX4_core wsX4_core ({ frames := 7, cells := 1, slots := 6, locals := 103 } : Room) (va_Pc [.ref (ad 0), .int xr] (pr_X E (dC E ad S zs rn dy bn cn tn))) (va_Qi (fun (r : Int32) (_ : Unit) => 0 = tReg xr rn ∧ r = crA (S (3 + 2 * (Int32.toNatClampNeg xr))) (levA (S (3 + 2 * (Int32.toNatClampNeg xr)))) 12) (fun _ _ => True) (fun _ : Nat => False)) (vx_X (fun (k : Nat) => k = tReg xr rn ∧ ¬ k = 0) (fun Ex k _ => Ex = exn ((exm 3 0 0) k)) (fun _ : Nat => False)) 1 6 (fun _ : Nat => False) := by
  refine vx_ofW (cc := cX4_core) (maxL := 2) (ret := (some .int)) (by decide) rfl ?_
  intro p e s m args below meth c s₁ B hml htb hv
  obtain ⟨rfl, hP, hE, hU9⟩ := hv
  have hx := B.exec
  have hb := B.bytes
  have hr := B.returns
  have hts := atoms_spec (ws := wsX4_core) B.pre
  have hown : s.vm.findClass RX4 = some m.cls := findClass_of_methodNamed B.named
  have hlocks := B.notSynchronized
  refine mz_start (fun H locs hH hL => ?_)
  have hS : va_S (fun _ : Nat => False) s.heap H locs := by rw [hH, hL]; exact va_S.rf
  have f_11 := hts (.fieldLink RX4 11 "AvalancheDesk" "regions" "[LAvalancheDesk$Region;") (by decide +kernel)
  have inX4 : ∀ w ∈ wsX40, w ∈ wsX4_core := by decide +kernel
  have hl := lv_entry ([.ref (ad 0), .int xr]) (n := 2) (Nat.le_of_ble_eq_true rfl)
  rw [lg_entry_eq]
  generalize (lg_sl ([.ref (ad 0), .int xr]) ++ List.replicate (2 - (lg_sl ([.ref (ad 0), .int xr])).length) Slot.unset).toArray = ls at hl ⊢
  have hl : lv_has ls 2 [(0, .ref (ad 0)), (1, .int xr)] := hl
  have hP : va_P E.1 vwCl (dC E ad S zs rn dy bn cn tn) H := by rw [hH]; exact hP
  refine lv_aload_n hx hb dX4_core_0 rfl (lv_at hl 0 rfl) ?_
  refine lv_iload_n hx hb dX4_core_1 rfl (lv_at hl 1 rfl) ?_
  refine vx_callv (vx_runV (As := [.int xr]) (rest := []) ⟨hx, hb, hml, hown, hts⟩ (kX4_checkRegion l hlt E (ad 0) (ad 1) (ad 14) (ad 16) (ad 19) (ad 24) rn dy xr (by first | omega | assumption | (intro k h; have := hz k h; omega))) (cwV 1 hts gX4_core_X4_checkRegion rfl rfl rfl (by decide +kernel) ⟨Nat.le_of_ble_eq_true rfl, Nat.le_of_ble_eq_true rfl⟩) ⟨fb_X, va_recv hE.1 hP (ci := 4) (q0 := 0) rfl rfl, fun U hU hW => ⟨rfl, (by rw [hU]; exact hP.sub (ws' := [((ad 0), .inr (4, [.ref (ad 1), .ref (ad 14), .ref (ad 16), .ref (ad 19), .ref (ad 24), .int (nI rn), .int (nI dy)]))]) [0] rfl), hE.warm hW, hU9.to hS (fun _ h => h.elim) hU hW⟩⟩ rfl rfl hl.1 rfl (lv_room (Nat.le_of_ble_eq_true rfl)) dX4_core_2 ⟨by first | exact Nat.le_of_ble_eq_true rfl | (show _ ≤ 1; omega), by first | exact Nat.le_of_ble_eq_true rfl | (show _ ≤ 6; omega)⟩) hS (fun q _ h => h.elim) (fun q h => h.elim) (fun q _ h => h.elim)
    (fun Ex ce q9 u9 t H1 locs ht hvm hw hB hz1 hk1 hS hce hcv hcl => ?_) (fun u t H1 locs ht hvm hw hB hz1 hk1 hS => ?_)
  · have hP := hP.ro hk1
    obtain ⟨rfl, x_2⟩ := hw
    exact vx_out (fun x9 hx9 => (htb x9 hx9).elim) hlocks hce hcv hcl (fun t9 ht9 hal9 => ⟨1, ⟨by first | (simp only [tReg, eq_self, if_true, i10f, if_false, if_pos x_2]; done) | (try unfold tReg; simp only [eq_self, if_true, i10f, if_false, if_pos x_2]; done) | (try unfold tReg; rfl) | rfl, by decide⟩, hB, hS.F ht9⟩) hS.2.2 (by first | (show _ ≤ 1; omega)) (by first | (show _ ≤ 6; omega))
  · skip
    have hP := hP.ro hk1
    generalize H1 = H at hP hS ⊢
    have c_2 := hw
    have q_2 := hw
    obtain ⟨jr, hjr, rfl⟩ := inF_some q_2 (by omega)
    refine lv_aload_n hx hb dX4_core_5 rfl (lv_at hl 0 rfl) ?_
    refine va_get (D := E.1) (ci := 4) (v := .ref (ad 1)) (C := RX4) (T := TX4) (N := 7) hx hb hts inX4 hown hE.1 hP 0 rfl rfl 0 (by decide) f_11 (fun _ h9 => h9) rfl dX4_core_6 ?_
    refine lv_iload_n hx hb dX4_core_9 rfl (lv_at hl 1 rfl) ?_
    refine mz_ald hx hb hE.1 hP 1 1 (n := 6) rfl rfl jr (by omega) (by omega) (y := ad (2 + 2 * jr)) rfl dX4_core_10 ?_
    refine lv_aload_n hx hb dX4_core_11 rfl (lv_at hl 0 rfl) ?_
    refine va_get (D := E.1) (ci := 4) (v := .ref (ad 1)) (C := RX4) (T := TX4) (N := 7) hx hb hts inX4 hown hE.1 hP 0 rfl rfl 0 (by decide) f_11 (fun _ h9 => h9) rfl dX4_core_12 ?_
    refine lv_iload_n hx hb dX4_core_15 rfl (lv_at hl 1 rfl) ?_
    refine mz_ald hx hb hE.1 hP 1 1 (n := 6) rfl rfl jr (by omega) (by omega) (y := ad (2 + 2 * jr)) rfl dX4_core_16 ?_
    refine va_calli (va_runV (As := []) (rest := [.ref (ad (2 + 2 * jr))]) ⟨hx, hb, hml, hown, hts⟩ (kX2_findLevel l E (ad (2 + 2 * jr)) (ad (3 + 2 * jr)) (S (2 + 2 * jr)) (S (3 + 2 * jr))) (cwV 0 hts gX4_core_X2_findLevel rfl rfl rfl (by decide +kernel) ⟨Nat.le_of_ble_eq_true rfl, Nat.le_of_ble_eq_true rfl⟩) ⟨fb_R, va_recv hE.1 hP (ci := 2) (q0 := 2 + 2 * jr) (a := (ad (2 + 2 * jr))) (fs := [.ref (ad (3 + 2 * jr)), .int ((S (2 + 2 * jr)) 1), .int ((S (2 + 2 * jr)) 2), .int ((S (2 + 2 * jr)) 3), .int ((S (2 + 2 * jr)) 4), .int ((S (2 + 2 * jr)) 5)]) rfl (by rcases (show jr = 0 ∨ jr = 1 ∨ jr = 2 ∨ jr = 3 ∨ jr = 4 ∨ jr = 5 from by omega) with rfl | rfl | rfl | rfl | rfl | rfl <;> rfl), fun U hU hW => ⟨rfl, (by rw [hU]; exact hP.sub (ws' := [((ad (2 + 2 * jr)), .inr (2, [.ref (ad (3 + 2 * jr)), .int ((S (2 + 2 * jr)) 1), .int ((S (2 + 2 * jr)) 2), .int ((S (2 + 2 * jr)) 3), .int ((S (2 + 2 * jr)) 4), .int ((S (2 + 2 * jr)) 5)])), ((ad (3 + 2 * jr)), .inl (E.2.1 0, 60, .inl (S (3 + 2 * jr))))]) [2 + 2 * jr, 3 + 2 * jr] (by rcases (show jr = 0 ∨ jr = 1 ∨ jr = 2 ∨ jr = 3 ∨ jr = 4 ∨ jr = 5 from by omega) with rfl | rfl | rfl | rfl | rfl | rfl <;> rfl)), hE.warm hW⟩⟩ rfl rfl hl.1 rfl (lv_room (Nat.le_of_ble_eq_true rfl)) dX4_core_17 ⟨by first | exact Nat.le_of_ble_eq_true rfl | (show _ ≤ 1; omega), by first | exact Nat.le_of_ble_eq_true rfl | (show _ ≤ 6; omega)⟩) hS (fun q _ h => h.elim) (fun q h => h.elim) (fun r17_1 u t H1 locs ht hvm hw hB hz1 hk1 hS => ?_)
    have hP := hP.ro hk1
    generalize H1 = H at hP hS ⊢
    subst hw
    refine va_calli (va_runV (As := [.int (levA (S (3 + 2 * jr)))]) (rest := []) ⟨hx, hb, hml, hown, hts⟩ (kX2_findCore l E (ad (2 + 2 * jr)) (ad (3 + 2 * jr)) (S (2 + 2 * jr)) (S (3 + 2 * jr)) (levA (S (3 + 2 * jr)))) (cwV 1 hts gX4_core_X2_findCore rfl rfl rfl (by decide +kernel) ⟨Nat.le_of_ble_eq_true rfl, Nat.le_of_ble_eq_true rfl⟩) ⟨fb_R, va_recv hE.1 hP (ci := 2) (q0 := 2 + 2 * jr) (a := (ad (2 + 2 * jr))) (fs := [.ref (ad (3 + 2 * jr)), .int ((S (2 + 2 * jr)) 1), .int ((S (2 + 2 * jr)) 2), .int ((S (2 + 2 * jr)) 3), .int ((S (2 + 2 * jr)) 4), .int ((S (2 + 2 * jr)) 5)]) rfl (by rcases (show jr = 0 ∨ jr = 1 ∨ jr = 2 ∨ jr = 3 ∨ jr = 4 ∨ jr = 5 from by omega) with rfl | rfl | rfl | rfl | rfl | rfl <;> rfl), fun U hU hW => ⟨rfl, (by rw [hU]; exact hP.sub (ws' := [((ad (2 + 2 * jr)), .inr (2, [.ref (ad (3 + 2 * jr)), .int ((S (2 + 2 * jr)) 1), .int ((S (2 + 2 * jr)) 2), .int ((S (2 + 2 * jr)) 3), .int ((S (2 + 2 * jr)) 4), .int ((S (2 + 2 * jr)) 5)])), ((ad (3 + 2 * jr)), .inl (E.2.1 0, 60, .inl (S (3 + 2 * jr))))]) [2 + 2 * jr, 3 + 2 * jr] (by rcases (show jr = 0 ∨ jr = 1 ∨ jr = 2 ∨ jr = 3 ∨ jr = 4 ∨ jr = 5 from by omega) with rfl | rfl | rfl | rfl | rfl | rfl <;> rfl)), hE.warm hW⟩⟩ rfl rfl hl.1 rfl (lv_room (Nat.le_of_ble_eq_true rfl)) dX4_core_20 ⟨by first | exact Nat.le_of_ble_eq_true rfl | (show _ ≤ 1; omega), by first | exact Nat.le_of_ble_eq_true rfl | (show _ ≤ 6; omega)⟩) hS (fun q _ h => h.elim) (fun q h => h.elim) (fun r20_2 u t H1 locs ht hvm hw hB hz1 hk1 hS => ?_)
    have hP := hP.ro hk1
    generalize H1 = H at hP hS ⊢
    subst hw
    refine vx_ret ?_
    exact W.iret (v := crA (S (3 + 2 * jr)) (levA (S (3 + 2 * jr))) 12) hx hb hr (fun t ht hW => ⟨⟨_, (), rfl, ⟨(by first | (simp only [tReg, if_neg c_2, nI_clamp (show jr < 2 ^ 31 by omega), eq_self, if_true, i10f, if_false]; done) | (try unfold tReg; simp only [if_neg c_2, nI_clamp (show jr < 2 ^ 31 by omega), eq_self, if_true, i10f, if_false]; done) | (try unfold tReg; rfl) | rfl), (by first | (simp only [if_neg c_2, nI_clamp (show jr < 2 ^ 31 by omega), eq_self, if_true, i10f, if_false]; done) | rfl)⟩, trivial⟩, hS.F ht⟩) hS.2.2 dX4_core_23
set_option maxHeartbeats 4000000 in
set_option maxRecDepth 100000 in
theorem kX4_mainProblem (l : Launch) (hlt : l.stackTraces = false) (E : ev_T) (ad : Nat → Nat) (S : Nat → Nat → Int32) (zs : Nat → Nat) (rn : Nat) (dy : Nat) (bn : Nat) (cn : Nat) (tn : Nat) (xr : Int32) (hrn : rn ≤ 6) (hdy : dy ≤ 60) : vx_Met l yX4_mainProblem wsX4_mainProblem ({ frames := 7, cells := 1, slots := 6, locals := 103 } : Room) (va_Pc [.ref (ad 0), .int xr] (pr_X E (dC E ad S zs rn dy bn cn tn))) (va_Qi (fun (r : Int32) (_ : Unit) => 0 = tReg xr rn ∧ r = (fpA (S (3 + 2 * (Int32.toNatClampNeg xr))) (crA (S (3 + 2 * (Int32.toNatClampNeg xr))) (levA (S (3 + 2 * (Int32.toNatClampNeg xr)))) 12) 4).1) (fun _ _ => True) (fun _ : Nat => False)) (vx_X (fun (k : Nat) => k = tReg xr rn ∧ ¬ k = 0) (fun Ex k _ => Ex = exn ((exm 3 0 0) k)) (fun _ : Nat => False)) 1 6 (fun _ : Nat => False) := by
  refine vx_ofW (cc := cX4_mainProblem) (maxL := 3) (ret := (some .int)) (by decide) rfl ?_
  intro p e s m args below meth c s₁ B hml htb hv
  obtain ⟨rfl, hP, hE, hU9⟩ := hv
  have hx := B.exec
  have hb := B.bytes
  have hr := B.returns
  have hts := atoms_spec (ws := wsX4_mainProblem) B.pre
  have hown : s.vm.findClass RX4 = some m.cls := findClass_of_methodNamed B.named
  have hlocks := B.notSynchronized
  refine mz_start (fun H locs hH hL => ?_)
  have hS : va_S (fun _ : Nat => False) s.heap H locs := by rw [hH, hL]; exact va_S.rf
  have f_11 := hts (.fieldLink RX4 11 "AvalancheDesk" "regions" "[LAvalancheDesk$Region;") (by decide +kernel)
  have inX4 : ∀ w ∈ wsX40, w ∈ wsX4_mainProblem := by decide +kernel
  have hl := lv_entry ([.ref (ad 0), .int xr]) (n := 3) (Nat.le_of_ble_eq_true rfl)
  rw [lg_entry_eq]
  generalize (lg_sl ([.ref (ad 0), .int xr]) ++ List.replicate (3 - (lg_sl ([.ref (ad 0), .int xr])).length) Slot.unset).toArray = ls at hl ⊢
  have hl : lv_has ls 3 [(0, .ref (ad 0)), (1, .int xr)] := hl
  have hP : va_P E.1 vwCl (dC E ad S zs rn dy bn cn tn) H := by rw [hH]; exact hP
  refine lv_aload_n hx hb dX4_mainProblem_0 rfl (lv_at hl 0 rfl) ?_
  refine lv_iload_n hx hb dX4_mainProblem_1 rfl (lv_at hl 1 rfl) ?_
  refine vx_callv (vx_runV (As := [.int xr]) (rest := []) ⟨hx, hb, hml, hown, hts⟩ (kX4_checkRegion l hlt E (ad 0) (ad 1) (ad 14) (ad 16) (ad 19) (ad 24) rn dy xr (by first | omega | assumption | (intro k h; have := hz k h; omega))) (cwV 1 hts gX4_mainProblem_X4_checkRegion rfl rfl rfl (by decide +kernel) ⟨Nat.le_of_ble_eq_true rfl, Nat.le_of_ble_eq_true rfl⟩) ⟨fb_X, va_recv hE.1 hP (ci := 4) (q0 := 0) rfl rfl, fun U hU hW => ⟨rfl, (by rw [hU]; exact hP.sub (ws' := [((ad 0), .inr (4, [.ref (ad 1), .ref (ad 14), .ref (ad 16), .ref (ad 19), .ref (ad 24), .int (nI rn), .int (nI dy)]))]) [0] rfl), hE.warm hW, hU9.to hS (fun _ h => h.elim) hU hW⟩⟩ rfl rfl hl.1 rfl (lv_room (Nat.le_of_ble_eq_true rfl)) dX4_mainProblem_2 ⟨by first | exact Nat.le_of_ble_eq_true rfl | (show _ ≤ 1; omega), by first | exact Nat.le_of_ble_eq_true rfl | (show _ ≤ 6; omega)⟩) hS (fun q _ h => h.elim) (fun q h => h.elim) (fun q _ h => h.elim)
    (fun Ex ce q9 u9 t H1 locs ht hvm hw hB hz1 hk1 hS hce hcv hcl => ?_) (fun u t H1 locs ht hvm hw hB hz1 hk1 hS => ?_)
  · have hP := hP.ro hk1
    obtain ⟨rfl, x_2⟩ := hw
    exact vx_out (fun x9 hx9 => (htb x9 hx9).elim) hlocks hce hcv hcl (fun t9 ht9 hal9 => ⟨1, ⟨by first | (simp only [tReg, eq_self, if_true, i10f, if_false, if_pos x_2]; done) | (try unfold tReg; simp only [eq_self, if_true, i10f, if_false, if_pos x_2]; done) | (try unfold tReg; rfl) | rfl, by decide⟩, hB, hS.F ht9⟩) hS.2.2 (by first | (show _ ≤ 1; omega)) (by first | (show _ ≤ 6; omega))
  · skip
    have hP := hP.ro hk1
    generalize H1 = H at hP hS ⊢
    have c_2 := hw
    have q_2 := hw
    obtain ⟨jr, hjr, rfl⟩ := inF_some q_2 (by omega)
    refine lv_aload_n hx hb dX4_mainProblem_5 rfl (lv_at hl 0 rfl) ?_
    refine va_get (D := E.1) (ci := 4) (v := .ref (ad 1)) (C := RX4) (T := TX4) (N := 7) hx hb hts inX4 hown hE.1 hP 0 rfl rfl 0 (by decide) f_11 (fun _ h9 => h9) rfl dX4_mainProblem_6 ?_
    refine lv_iload_n hx hb dX4_mainProblem_9 rfl (lv_at hl 1 rfl) ?_
    refine mz_ald hx hb hE.1 hP 1 1 (n := 6) rfl rfl jr (by omega) (by omega) (y := ad (2 + 2 * jr)) rfl dX4_mainProblem_10 ?_
    refine lv_astore_n (lv' := [(2, .ref (ad (2 + 2 * jr))), (0, .ref (ad 0)), (1, .int (nI jr))]) hx hb dX4_mainProblem_11 rfl hl (by decide) rfl (fun ls hl => ?_)
    refine lv_aload_n hx hb dX4_mainProblem_12 rfl (lv_at hl 0 rfl) ?_
    refine lv_aload_n hx hb dX4_mainProblem_13 rfl (lv_at hl 0 rfl) ?_
    refine lv_aload_n hx hb dX4_mainProblem_14 rfl (lv_at hl 0 rfl) ?_
    refine va_calli (va_runV (As := []) (rest := [.ref (ad (2 + 2 * jr)), .ref (ad (2 + 2 * jr))]) ⟨hx, hb, hml, hown, hts⟩ (kX2_findLevel l E (ad (2 + 2 * jr)) (ad (3 + 2 * jr)) (S (2 + 2 * jr)) (S (3 + 2 * jr))) (cwV 0 hts gX4_mainProblem_X2_findLevel rfl rfl rfl (by decide +kernel) ⟨Nat.le_of_ble_eq_true rfl, Nat.le_of_ble_eq_true rfl⟩) ⟨fb_R, va_recv hE.1 hP (ci := 2) (q0 := 2 + 2 * jr) (a := (ad (2 + 2 * jr))) (fs := [.ref (ad (3 + 2 * jr)), .int ((S (2 + 2 * jr)) 1), .int ((S (2 + 2 * jr)) 2), .int ((S (2 + 2 * jr)) 3), .int ((S (2 + 2 * jr)) 4), .int ((S (2 + 2 * jr)) 5)]) rfl (by rcases (show jr = 0 ∨ jr = 1 ∨ jr = 2 ∨ jr = 3 ∨ jr = 4 ∨ jr = 5 from by omega) with rfl | rfl | rfl | rfl | rfl | rfl <;> rfl), fun U hU hW => ⟨rfl, (by rw [hU]; exact hP.sub (ws' := [((ad (2 + 2 * jr)), .inr (2, [.ref (ad (3 + 2 * jr)), .int ((S (2 + 2 * jr)) 1), .int ((S (2 + 2 * jr)) 2), .int ((S (2 + 2 * jr)) 3), .int ((S (2 + 2 * jr)) 4), .int ((S (2 + 2 * jr)) 5)])), ((ad (3 + 2 * jr)), .inl (E.2.1 0, 60, .inl (S (3 + 2 * jr))))]) [2 + 2 * jr, 3 + 2 * jr] (by rcases (show jr = 0 ∨ jr = 1 ∨ jr = 2 ∨ jr = 3 ∨ jr = 4 ∨ jr = 5 from by omega) with rfl | rfl | rfl | rfl | rfl | rfl <;> rfl)), hE.warm hW⟩⟩ rfl rfl hl.1 rfl (lv_room (Nat.le_of_ble_eq_true rfl)) dX4_mainProblem_15 ⟨by first | exact Nat.le_of_ble_eq_true rfl | (show _ ≤ 1; omega), by first | exact Nat.le_of_ble_eq_true rfl | (show _ ≤ 6; omega)⟩) hS (fun q _ h => h.elim) (fun q h => h.elim) (fun r15_1 u t H1 locs ht hvm hw hB hz1 hk1 hS => ?_)
    have hP := hP.ro hk1
    generalize H1 = H at hP hS ⊢
    subst hw
    refine va_calli (va_runV (As := [.int (levA (S (3 + 2 * jr)))]) (rest := [.ref (ad (2 + 2 * jr))]) ⟨hx, hb, hml, hown, hts⟩ (kX2_findCore l E (ad (2 + 2 * jr)) (ad (3 + 2 * jr)) (S (2 + 2 * jr)) (S (3 + 2 * jr)) (levA (S (3 + 2 * jr)))) (cwV 1 hts gX4_mainProblem_X2_findCore rfl rfl rfl (by decide +kernel) ⟨Nat.le_of_ble_eq_true rfl, Nat.le_of_ble_eq_true rfl⟩) ⟨fb_R, va_recv hE.1 hP (ci := 2) (q0 := 2 + 2 * jr) (a := (ad (2 + 2 * jr))) (fs := [.ref (ad (3 + 2 * jr)), .int ((S (2 + 2 * jr)) 1), .int ((S (2 + 2 * jr)) 2), .int ((S (2 + 2 * jr)) 3), .int ((S (2 + 2 * jr)) 4), .int ((S (2 + 2 * jr)) 5)]) rfl (by rcases (show jr = 0 ∨ jr = 1 ∨ jr = 2 ∨ jr = 3 ∨ jr = 4 ∨ jr = 5 from by omega) with rfl | rfl | rfl | rfl | rfl | rfl <;> rfl), fun U hU hW => ⟨rfl, (by rw [hU]; exact hP.sub (ws' := [((ad (2 + 2 * jr)), .inr (2, [.ref (ad (3 + 2 * jr)), .int ((S (2 + 2 * jr)) 1), .int ((S (2 + 2 * jr)) 2), .int ((S (2 + 2 * jr)) 3), .int ((S (2 + 2 * jr)) 4), .int ((S (2 + 2 * jr)) 5)])), ((ad (3 + 2 * jr)), .inl (E.2.1 0, 60, .inl (S (3 + 2 * jr))))]) [2 + 2 * jr, 3 + 2 * jr] (by rcases (show jr = 0 ∨ jr = 1 ∨ jr = 2 ∨ jr = 3 ∨ jr = 4 ∨ jr = 5 from by omega) with rfl | rfl | rfl | rfl | rfl | rfl <;> rfl)), hE.warm hW⟩⟩ rfl rfl hl.1 rfl (lv_room (Nat.le_of_ble_eq_true rfl)) dX4_mainProblem_18 ⟨by first | exact Nat.le_of_ble_eq_true rfl | (show _ ≤ 1; omega), by first | exact Nat.le_of_ble_eq_true rfl | (show _ ≤ 6; omega)⟩) hS (fun q _ h => h.elim) (fun q h => h.elim) (fun r18_2 u t H1 locs ht hvm hw hB hz1 hk1 hS => ?_)
    have hP := hP.ro hk1
    generalize H1 = H at hP hS ⊢
    subst hw
    refine va_calli (va_runV (As := [.int (crA (S (3 + 2 * jr)) (levA (S (3 + 2 * jr))) 12)]) (rest := []) ⟨hx, hb, hml, hown, hts⟩ (kX2_findProblem l E (ad (2 + 2 * jr)) (ad (3 + 2 * jr)) (S (2 + 2 * jr)) (S (3 + 2 * jr)) (crA (S (3 + 2 * jr)) (levA (S (3 + 2 * jr))) 12)) (cwV 1 hts gX4_mainProblem_X2_findProblem rfl rfl rfl (by decide +kernel) ⟨Nat.le_of_ble_eq_true rfl, Nat.le_of_ble_eq_true rfl⟩) ⟨fb_R, va_recv hE.1 hP (ci := 2) (q0 := 2 + 2 * jr) (a := (ad (2 + 2 * jr))) (fs := [.ref (ad (3 + 2 * jr)), .int ((S (2 + 2 * jr)) 1), .int ((S (2 + 2 * jr)) 2), .int ((S (2 + 2 * jr)) 3), .int ((S (2 + 2 * jr)) 4), .int ((S (2 + 2 * jr)) 5)]) rfl (by rcases (show jr = 0 ∨ jr = 1 ∨ jr = 2 ∨ jr = 3 ∨ jr = 4 ∨ jr = 5 from by omega) with rfl | rfl | rfl | rfl | rfl | rfl <;> rfl), fun U hU hW => ⟨rfl, (by rw [hU]; exact hP.sub (ws' := [((ad (2 + 2 * jr)), .inr (2, [.ref (ad (3 + 2 * jr)), .int ((S (2 + 2 * jr)) 1), .int ((S (2 + 2 * jr)) 2), .int ((S (2 + 2 * jr)) 3), .int ((S (2 + 2 * jr)) 4), .int ((S (2 + 2 * jr)) 5)])), ((ad (3 + 2 * jr)), .inl (E.2.1 0, 60, .inl (S (3 + 2 * jr))))]) [2 + 2 * jr, 3 + 2 * jr] (by rcases (show jr = 0 ∨ jr = 1 ∨ jr = 2 ∨ jr = 3 ∨ jr = 4 ∨ jr = 5 from by omega) with rfl | rfl | rfl | rfl | rfl | rfl <;> rfl)), hE.warm hW⟩⟩ rfl rfl hl.1 rfl (lv_room (Nat.le_of_ble_eq_true rfl)) dX4_mainProblem_21 ⟨by first | exact Nat.le_of_ble_eq_true rfl | (show _ ≤ 1; omega), by first | exact Nat.le_of_ble_eq_true rfl | (show _ ≤ 6; omega)⟩) hS (fun q _ h => h.elim) (fun q h => h.elim) (fun r21_3 u t H1 locs ht hvm hw hB hz1 hk1 hS => ?_)
    have hP := hP.ro hk1
    generalize H1 = H at hP hS ⊢
    subst hw
    refine vx_ret ?_
    exact W.iret (v := (fpA (S (3 + 2 * jr)) (crA (S (3 + 2 * jr)) (levA (S (3 + 2 * jr))) 12) 4).1) hx hb hr (fun t ht hW => ⟨⟨_, (), rfl, ⟨(by first | (simp only [tReg, if_neg c_2, nI_clamp (show jr < 2 ^ 31 by omega), eq_self, if_true, i10f, if_false]; done) | (try unfold tReg; simp only [if_neg c_2, nI_clamp (show jr < 2 ^ 31 by omega), eq_self, if_true, i10f, if_false]; done) | (try unfold tReg; rfl) | rfl), (by first | (simp only [if_neg c_2, nI_clamp (show jr < 2 ^ 31 by omega), eq_self, if_true, i10f, if_false]; done) | rfl)⟩, trivial⟩, hS.F ht⟩) hS.2.2 dX4_mainProblem_24
