/-! the end of a day and the outlook -/
set_option maxHeartbeats 4000000 in
set_option maxRecDepth 100000 in
theorem kX4_outlook (l : Launch) (hlt : l.stackTraces = false) (E : ev_T) (ad : Nat → Nat) (S : Nat → Nat → Int32) (zs : Nat → Nat) (rn : Nat) (dy : Nat) (bn : Nat) (cn : Nat) (tn : Nat) (xr : Int32) (xn : Int32) (xw : Int32) (xf : Int32) (xt : Int32) (sz : Nat) (hrn : rn ≤ 6) (hdy : dy ≤ 60) : vx_Met l yX4_outlook wsX4_outlook ({ frames := 7, cells := 2, slots := 12, locals := 112 } : Room) (va_Pc [.ref (ad 0), .int xr, .int xn, .int xw, .int xf, .int xt] (pr_Y E (dC E ad S zs rn dy bn cn tn) sz)) (va_Qi (fun (r : Int32) (_ : Unit) => 0 = tWea xr xn xw xf xt rn ∧ r = levA (pdN (va_cpy (S (3 + 2 * (Int32.toNatClampNeg xr))) (S 15) 0 0 60) xn xw xf xt 12)) (fun _ t => va_P E.1 vwCl (dC E ad (va_up (va_up (va_up S 15 (va_cpy (S (3 + 2 * (Int32.toNatClampNeg xr))) (S 15) 0 0 60)) 14 (fF 1 xn xw xf xt)) 15 (pdN (va_cpy (S (3 + 2 * (Int32.toNatClampNeg xr))) (S 15) 0 0 60) ((fF 1 xn xw xf xt) 2) ((fF 1 xn xw xf xt) 3) ((fF 1 xn xw xf xt) 4) ((fF 1 xn xw xf xt) 5) 12)) zs rn dy bn cn tn) t.heap) (va_A (dC E ad S zs rn dy bn cn tn) sz)) (vx_X (fun (k : Nat) => k = tWea xr xn xw xf xt rn ∧ ¬ k = 0) (fun Ex k t => Ex = exn ((exm 3 2 0) k) ∧ va_P E.1 vwCl (dC E ad S zs rn dy bn cn tn) t.heap) (va_A (dC E ad S zs rn dy bn cn tn) sz)) 2 12 (va_A (dC E ad S zs rn dy bn cn tn) sz) := by
  refine vx_ofW (cc := cX4_outlook) (maxL := 6) (ret := (some .int)) (by decide) rfl ?_
  intro p e s m args below meth c s₁ B hml htb hv
  obtain ⟨rfl, hsz, hP, hD0, hE, hU9⟩ := hv
  have hx := B.exec
  have hb := B.bytes
  have hr := B.returns
  have hts := atoms_spec (ws := wsX4_outlook) B.pre
  have hown : s.vm.findClass RX4 = some m.cls := findClass_of_methodNamed B.named
  have hlocks := B.notSynchronized
  subst hsz
  have hD : va_D (va_A (dC E ad S zs rn dy bn cn tn) s.heap.size) (dC E ad S zs rn dy bn cn tn) := hD0.self
  have hA : ∀ q : Nat, s.heap.size ≤ q → (va_A (dC E ad S zs rn dy bn cn tn) s.heap.size) q := fun q h => Or.inr h
  refine mz_start (fun H locs hH hL => ?_)
  have hS : va_S (va_A (dC E ad S zs rn dy bn cn tn) s.heap.size) s.heap H locs := by rw [hH, hL]; exact va_S.rf
  have f_16 := hts (.fieldLink RX4 16 "AvalancheDesk" "trial" "LAvalancheDesk$Region;") (by decide +kernel)
  have inX4 : ∀ w ∈ wsX40, w ∈ wsX4_outlook := by decide +kernel
  have f_11 := hts (.fieldLink RX4 11 "AvalancheDesk" "regions" "[LAvalancheDesk$Region;") (by decide +kernel)
  have hl := lv_entry ([.ref (ad 0), .int xr, .int xn, .int xw, .int xf, .int xt]) (n := 6) (Nat.le_of_ble_eq_true rfl)
  rw [lg_entry_eq]
  generalize (lg_sl ([.ref (ad 0), .int xr, .int xn, .int xw, .int xf, .int xt]) ++ List.replicate (6 - (lg_sl ([.ref (ad 0), .int xr, .int xn, .int xw, .int xf, .int xt])).length) Slot.unset).toArray = ls at hl ⊢
  have hl : lv_has ls 6 [(0, .ref (ad 0)), (1, .int xr), (2, .int xn), (3, .int xw), (4, .int xf), (5, .int xt)] := hl
  have hP : va_P E.1 vwCl (dC E ad S zs rn dy bn cn tn) H := by rw [hH]; exact hP
  refine lv_aload_n hx hb dX4_outlook_0 rfl (lv_at hl 0 rfl) ?_
  refine lv_iload_n hx hb dX4_outlook_1 rfl (lv_at hl 1 rfl) ?_
  refine vx_callv (vx_runV (As := [.int xr]) (rest := []) ⟨hx, hb, hml, hown, hts⟩ (kX4_checkRegion l hlt E (ad 0) (ad 1) (ad 14) (ad 16) (ad 19) (ad 24) rn dy xr (by first | omega | assumption | (intro k h; have := hz k h; omega))) (cwV 1 hts gX4_outlook_X4_checkRegion rfl rfl rfl (by decide +kernel) ⟨Nat.le_of_ble_eq_true rfl, Nat.le_of_ble_eq_true rfl⟩) ⟨fb_X, va_recv hE.1 hP (ci := 4) (q0 := 0) rfl rfl, fun U hU hW => ⟨rfl, (by rw [hU]; exact hP.sub (ws' := [((ad 0), .inr (4, [.ref (ad 1), .ref (ad 14), .ref (ad 16), .ref (ad 19), .ref (ad 24), .int (nI rn), .int (nI dy)]))]) [0] rfl), hE.warm hW, hU9.to hS (fun _ h => h.elim) hU hW⟩⟩ rfl rfl hl.1 rfl (lv_room (Nat.le_of_ble_eq_true rfl)) dX4_outlook_2 ⟨by first | exact Nat.le_of_ble_eq_true rfl | (show _ ≤ 2; omega), by first | exact Nat.le_of_ble_eq_true rfl | (show _ ≤ 12; omega)⟩) hS (fun q _ h => h.elim) (fun q h => h.elim) (fun q _ h => h.elim)
    (fun Ex ce q9 u9 t H1 locs ht hvm hw hB hz1 hk1 hS hce hcv hcl => ?_) (fun u t H1 locs ht hvm hw hB hz1 hk1 hS => ?_)
  · have hP := hP.ro hk1
    obtain ⟨rfl, x_2⟩ := hw
    exact vx_out (fun x9 hx9 => (htb x9 hx9).elim) hlocks hce hcv hcl (fun t9 ht9 hal9 => ⟨1, ⟨by first | (simp only [tWea, eq_self, if_true, i10f, if_false, if_pos x_2]; done) | (try unfold tWea; simp only [eq_self, if_true, i10f, if_false, if_pos x_2]; done) | (try unfold tWea; rfl) | rfl, by decide⟩, ⟨hB, by rw [ht9]; exact hP⟩, hS.F ht9⟩) hS.2.2 (by first | (show _ ≤ 2; omega)) (by first | (show _ ≤ 12; omega))
  · skip
    have hP := hP.ro hk1
    generalize H1 = H at hP hS ⊢
    have c_2 := hw
    have q_2 := hw
    obtain ⟨jr, hjr, rfl⟩ := inF_some q_2 (by omega)
    refine lv_iload_n hx hb dX4_outlook_5 rfl (lv_at hl 2 rfl) ?_
    refine lv_iload_n hx hb dX4_outlook_6 rfl (lv_at hl 3 rfl) ?_
    refine lv_iload hx hb dX4_outlook_7 (lv_at hl 4 rfl) ?_
    refine lv_iload hx hb dX4_outlook_9 (lv_at hl 5 rfl) ?_
    refine vx_callv (vx_runS (As := [.int xn, .int xw, .int xf, .int xt]) (rest := []) ⟨hx, hb, hml, hown, hts⟩ (kX4_checkWeather l hlt E xn xw xf xt) (va_cwS 4 hts gX4_outlook_X4_checkWeather rfl rfl rfl (by decide +kernel) ⟨Nat.le_of_ble_eq_true rfl, Nat.le_of_ble_eq_true rfl⟩) ⟨fb_X, fun U hU hW => ⟨rfl, (by rw [hU]; exact hP.sub (ws' := []) [] rfl), hE.warm hW, hU9.to hS (fun _ h => h.elim) hU hW⟩⟩ rfl rfl hl.1 rfl (lv_room (Nat.le_of_ble_eq_true rfl)) dX4_outlook_11 ⟨by first | exact Nat.le_of_ble_eq_true rfl | (show _ ≤ 2; omega), by first | exact Nat.le_of_ble_eq_true rfl | (show _ ≤ 12; omega)⟩) hS (fun q _ h => h.elim) (fun q h => h.elim) (fun q _ h => h.elim)
      (fun Ex ce q9 u9 t H1 locs ht hvm hw hB hz1 hk1 hS hce hcv hcl => ?_) (fun u t H1 locs ht hvm hw hB hz1 hk1 hS => ?_)
    · have hP := hP.ro hk1
      obtain ⟨rfl, x_11⟩ := hw
      exact vx_out (fun x9 hx9 => (htb x9 hx9).elim) hlocks hce hcv hcl (fun t9 ht9 hal9 => ⟨2, ⟨by first | (simp only [tWea, if_neg c_2, nI_clamp (show jr < 2 ^ 31 by omega), eq_self, if_true, i10f, if_false, if_pos x_11]; done) | (try unfold tWea; simp only [if_neg c_2, nI_clamp (show jr < 2 ^ 31 by omega), eq_self, if_true, i10f, if_false, if_pos x_11]; done) | (try unfold tWea; rfl) | rfl, by decide⟩, ⟨hB, by rw [ht9]; exact hP⟩, hS.F ht9⟩) hS.2.2 (by first | (show _ ≤ 2; omega)) (by first | (show _ ≤ 12; omega))
    · skip
      have hP := hP.ro hk1
      generalize H1 = H at hP hS ⊢
      have c_11 := hw
      refine lv_aload_n hx hb dX4_outlook_14 rfl (lv_at hl 0 rfl) ?_
      refine va_get (D := E.1) (ci := 4) (v := .ref (ad 14)) (C := RX4) (T := TX4) (N := 7) hx hb hts inX4 hown hE.1 hP 0 rfl rfl 1 (by decide) f_16 (fun _ h9 => h9) rfl dX4_outlook_15 ?_
      refine lv_aload_n hx hb dX4_outlook_18 rfl (lv_at hl 0 rfl) ?_
      refine va_get (D := E.1) (ci := 4) (v := .ref (ad 1)) (C := RX4) (T := TX4) (N := 7) hx hb hts inX4 hown hE.1 hP 0 rfl rfl 0 (by decide) f_11 (fun _ h9 => h9) rfl dX4_outlook_19 ?_
      refine lv_iload_n hx hb dX4_outlook_22 rfl (lv_at hl 1 rfl) ?_
      refine mz_ald hx hb hE.1 hP 1 2 (n := 6) rfl rfl jr (by omega) (by omega) (y := ad (2 + 2 * jr)) rfl dX4_outlook_23 ?_
      have hFc := va_free (wc := [((ad 14), .inr (2, [.ref (ad 15), .int ((S 14) 1), .int ((S 14) 2), .int ((S 14) 3), .int ((S 14) 4), .int ((S 14) 5)])), ((ad 15), .inl (E.2.1 0, 60, .inl (S 15))), ((ad (2 + 2 * jr)), .inr (2, [.ref (ad (3 + 2 * jr)), .int ((S (2 + 2 * jr)) 1), .int ((S (2 + 2 * jr)) 2), .int ((S (2 + 2 * jr)) 3), .int ((S (2 + 2 * jr)) 4), .int ((S (2 + 2 * jr)) 5)])), ((ad (3 + 2 * jr)), .inl (E.2.1 0, 60, .inl (S (3 + 2 * jr))))]) hD hS hA [14, 15, 2 + 2 * jr, 3 + 2 * jr] (by rcases (show jr = 0 ∨ jr = 1 ∨ jr = 2 ∨ jr = 3 ∨ jr = 4 ∨ jr = 5 from by omega) with rfl | rfl | rfl | rfl | rfl | rfl <;> rfl)
      refine va_callv (va_runV (As := [.ref (ad (2 + 2 * jr))]) (rest := []) ⟨hx, hb, hml, hown, hts⟩ (kX2_copyNumbersOf l E (ad 14) (ad 15) (S 14) (S 15) (ad (2 + 2 * jr)) (ad (3 + 2 * jr)) (S (2 + 2 * jr)) (S (3 + 2 * jr)) H.size) (cwV 1 hts gX4_outlook_X2_copyNumbersOf rfl rfl rfl (by decide +kernel) ⟨Nat.le_of_ble_eq_true rfl, Nat.le_of_ble_eq_true rfl⟩) ⟨fb_W, va_recv hE.1 hP (ci := 2) (q0 := 14) rfl rfl, fun U hU hW => ⟨rfl, by rw [hU], (by rw [hU]; exact hP.sub (ws' := [((ad 14), .inr (2, [.ref (ad 15), .int ((S 14) 1), .int ((S 14) 2), .int ((S 14) 3), .int ((S 14) 4), .int ((S 14) 5)])), ((ad 15), .inl (E.2.1 0, 60, .inl (S 15))), ((ad (2 + 2 * jr)), .inr (2, [.ref (ad (3 + 2 * jr)), .int ((S (2 + 2 * jr)) 1), .int ((S (2 + 2 * jr)) 2), .int ((S (2 + 2 * jr)) 3), .int ((S (2 + 2 * jr)) 4), .int ((S (2 + 2 * jr)) 5)])), ((ad (3 + 2 * jr)), .inl (E.2.1 0, 60, .inl (S (3 + 2 * jr))))]) [14, 15, 2 + 2 * jr, 3 + 2 * jr] (by rcases (show jr = 0 ∨ jr = 1 ∨ jr = 2 ∨ jr = 3 ∨ jr = 4 ∨ jr = 5 from by omega) with rfl | rfl | rfl | rfl | rfl | rfl <;> rfl)), (hD.sub (ws' := [((ad 14), .inr (2, [.ref (ad 15), .int ((S 14) 1), .int ((S 14) 2), .int ((S 14) 3), .int ((S 14) 4), .int ((S 14) 5)])), ((ad 15), .inl (E.2.1 0, 60, .inl (S 15))), ((ad (2 + 2 * jr)), .inr (2, [.ref (ad (3 + 2 * jr)), .int ((S (2 + 2 * jr)) 1), .int ((S (2 + 2 * jr)) 2), .int ((S (2 + 2 * jr)) 3), .int ((S (2 + 2 * jr)) 4), .int ((S (2 + 2 * jr)) 5)])), ((ad (3 + 2 * jr)), .inl (E.2.1 0, 60, .inl (S (3 + 2 * jr))))]) [14, 15, 2 + 2 * jr, 3 + 2 * jr] (by rcases (show jr = 0 ∨ jr = 1 ∨ jr = 2 ∨ jr = 3 ∨ jr = 4 ∨ jr = 5 from by omega) with rfl | rfl | rfl | rfl | rfl | rfl <;> rfl) (by rcases (show jr = 0 ∨ jr = 1 ∨ jr = 2 ∨ jr = 3 ∨ jr = 4 ∨ jr = 5 from by omega) with rfl | rfl | rfl | rfl | rfl | rfl <;> rfl)).weaken (fun _ _ _ _ => trivial), hE.warm hW⟩⟩ rfl rfl hl.1 rfl (lv_room (Nat.le_of_ble_eq_true rfl)) dX4_outlook_24 ⟨by first | exact Nat.le_of_ble_eq_true rfl | (show _ ≤ 2; omega), by first | exact Nat.le_of_ble_eq_true rfl | (show _ ≤ 12; omega)⟩) hS (fun q _ h => hFc q h) hFc (fun u t H1 locs ht hvm hw hB hz1 hk1 hS => ?_)
      rw [ht] at hB
      obtain ⟨hP, hD⟩ := va_put2 (ws' := (dC E ad (va_up S 15 (va_cpy (S (3 + 2 * jr)) (S 15) 0 0 60)) zs rn dy bn cn tn)) hP hD [14, 15, 2 + 2 * jr, 3 + 2 * jr] (by (try generalize va_cpy (S (3 + 2 * jr)) (S 15) 0 0 60 = X90); rcases (show jr = 0 ∨ jr = 1 ∨ jr = 2 ∨ jr = 3 ∨ jr = 4 ∨ jr = 5 from by omega) with rfl | rfl | rfl | rfl | rfl | rfl <;> rfl) hk1 hB rfl (by simp only [List.map_cons, List.map_nil]) (by (try generalize va_cpy (S (3 + 2 * jr)) (S 15) 0 0 60 = X90); rcases (show jr = 0 ∨ jr = 1 ∨ jr = 2 ∨ jr = 3 ∨ jr = 4 ∨ jr = 5 from by omega) with rfl | rfl | rfl | rfl | rfl | rfl <;> rfl)
      generalize H1 = H at hP hS ⊢
      generalize hA9 : va_cpy (S (3 + 2 * jr)) (S 15) 0 0 60 = A9 at hP hD
      refine lv_aload_n hx hb dX4_outlook_27 rfl (lv_at hl 0 rfl) ?_
      refine va_get (D := E.1) (ci := 4) (v := .ref (ad 14)) (C := RX4) (T := TX4) (N := 7) hx hb hts inX4 hown hE.1 hP 0 rfl rfl 1 (by decide) f_16 (fun _ h9 => h9) rfl dX4_outlook_28 ?_
      refine lv_iload_n hx hb dX4_outlook_31 rfl (lv_at hl 2 rfl) ?_
      refine lv_iload_n hx hb dX4_outlook_32 rfl (lv_at hl 3 rfl) ?_
      refine lv_iload hx hb dX4_outlook_33 (lv_at hl 4 rfl) ?_
      refine lv_iload hx hb dX4_outlook_35 (lv_at hl 5 rfl) ?_
      have hFc := va_free (wc := [((ad 14), .inr (2, [.ref (ad 15), .int ((S 14) 1), .int ((S 14) 2), .int ((S 14) 3), .int ((S 14) 4), .int ((S 14) 5)])), ((ad 15), .inl (E.2.1 0, 60, .inl A9))]) hD hS hA [14, 15] rfl
      refine va_callv (va_runV (As := [.int xn, .int xw, .int xf, .int xt]) (rest := []) ⟨hx, hb, hml, hown, hts⟩ (kX2_tellWeather l E (ad 14) (ad 15) (S 14) A9 xn xw xf xt H.size) (cwV 4 hts gX4_outlook_X2_tellWeather rfl rfl rfl (by decide +kernel) ⟨Nat.le_of_ble_eq_true rfl, Nat.le_of_ble_eq_true rfl⟩) ⟨fb_W, va_recv hE.1 hP (ci := 2) (q0 := 14) rfl rfl, fun U hU hW => ⟨rfl, by rw [hU], (by rw [hU]; exact hP.sub (ws' := [((ad 14), .inr (2, [.ref (ad 15), .int ((S 14) 1), .int ((S 14) 2), .int ((S 14) 3), .int ((S 14) 4), .int ((S 14) 5)])), ((ad 15), .inl (E.2.1 0, 60, .inl A9))]) [14, 15] rfl), (hD.sub (ws' := [((ad 14), .inr (2, [.ref (ad 15), .int ((S 14) 1), .int ((S 14) 2), .int ((S 14) 3), .int ((S 14) 4), .int ((S 14) 5)])), ((ad 15), .inl (E.2.1 0, 60, .inl A9))]) [14, 15] (by decide) rfl).weaken (fun _ _ _ _ => trivial), hE.warm hW⟩⟩ rfl rfl hl.1 rfl (lv_room (Nat.le_of_ble_eq_true rfl)) dX4_outlook_37 ⟨by first | exact Nat.le_of_ble_eq_true rfl | (show _ ≤ 2; omega), by first | exact Nat.le_of_ble_eq_true rfl | (show _ ≤ 12; omega)⟩) hS (fun q _ h => hFc q h) hFc (fun u t H1 locs ht hvm hw hB hz1 hk1 hS => ?_)
      rw [ht] at hB
      obtain ⟨hP, hD⟩ := va_put2 (ws' := (dC E ad (va_up (va_up S 15 A9) 14 (fF 1 xn xw xf xt)) zs rn dy bn cn tn)) hP hD [14, 15] rfl hk1 hB rfl (by simp only [List.map_cons, List.map_nil]) rfl
      generalize H1 = H at hP hS ⊢
      refine lv_aload_n hx hb dX4_outlook_40 rfl (lv_at hl 0 rfl) ?_
      refine va_get (D := E.1) (ci := 4) (v := .ref (ad 14)) (C := RX4) (T := TX4) (N := 7) hx hb hts inX4 hown hE.1 hP 0 rfl rfl 1 (by decide) f_16 (fun _ h9 => h9) rfl dX4_outlook_41 ?_
      generalize hC9 : pdN A9 ((fF 1 xn xw xf xt) 2) ((fF 1 xn xw xf xt) 3) ((fF 1 xn xw xf xt) 4) ((fF 1 xn xw xf xt) 5) 12 = C9 at hP hD
      have hFc := va_free (wc := [((ad 14), .inr (2, [.ref (ad 15), .int ((fF 1 xn xw xf xt) 1), .int ((fF 1 xn xw xf xt) 2), .int ((fF 1 xn xw xf xt) 3), .int ((fF 1 xn xw xf xt) 4), .int ((fF 1 xn xw xf xt) 5)])), ((ad 15), .inl (E.2.1 0, 60, .inl A9))]) hD hS hA [14, 15] rfl
      refine va_callv (va_runV (As := []) (rest := []) ⟨hx, hb, hml, hown, hts⟩ (kX2_passDay l E (ad 14) (ad 15) (fF 1 xn xw xf xt) A9 H.size) (cwV 0 hts gX4_outlook_X2_passDay rfl rfl rfl (by decide +kernel) ⟨Nat.le_of_ble_eq_true rfl, Nat.le_of_ble_eq_true rfl⟩) ⟨fb_W, va_recv hE.1 hP (ci := 2) (q0 := 14) rfl rfl, fun U hU hW => ⟨rfl, by rw [hU], (by rw [hU]; exact hP.sub (ws' := [((ad 14), .inr (2, [.ref (ad 15), .int ((fF 1 xn xw xf xt) 1), .int ((fF 1 xn xw xf xt) 2), .int ((fF 1 xn xw xf xt) 3), .int ((fF 1 xn xw xf xt) 4), .int ((fF 1 xn xw xf xt) 5)])), ((ad 15), .inl (E.2.1 0, 60, .inl A9))]) [14, 15] rfl), (hD.sub (ws' := [((ad 14), .inr (2, [.ref (ad 15), .int ((fF 1 xn xw xf xt) 1), .int ((fF 1 xn xw xf xt) 2), .int ((fF 1 xn xw xf xt) 3), .int ((fF 1 xn xw xf xt) 4), .int ((fF 1 xn xw xf xt) 5)])), ((ad 15), .inl (E.2.1 0, 60, .inl A9))]) [14, 15] (by decide) rfl).weaken (fun _ _ _ _ => trivial), hE.warm hW⟩⟩ rfl rfl hl.1 rfl (lv_room (Nat.le_of_ble_eq_true rfl)) dX4_outlook_44 ⟨by first | exact Nat.le_of_ble_eq_true rfl | (show _ ≤ 2; omega), by first | exact Nat.le_of_ble_eq_true rfl | (show _ ≤ 12; omega)⟩) hS (fun q _ h => hFc q h) hFc (fun u t H1 locs ht hvm hw hB hz1 hk1 hS => ?_)
      rw [ht] at hB
      obtain ⟨hP, hD⟩ := va_put2 (ws' := (dC E ad (va_up (va_up (va_up S 15 A9) 14 (fF 1 xn xw xf xt)) 15 (pdN A9 ((fF 1 xn xw xf xt) 2) ((fF 1 xn xw xf xt) 3) ((fF 1 xn xw xf xt) 4) ((fF 1 xn xw xf xt) 5) 12)) zs rn dy bn cn tn)) hP hD [14, 15] rfl hk1 hB rfl (by simp only [List.map_cons, List.map_nil]) (by (try generalize pdN A9 ((fF 1 xn xw xf xt) 2) ((fF 1 xn xw xf xt) 3) ((fF 1 xn xw xf xt) 4) ((fF 1 xn xw xf xt) 5) 12 = X90); exact rfl)
      generalize H1 = H at hP hS ⊢
      refine lv_aload_n hx hb dX4_outlook_47 rfl (lv_at hl 0 rfl) ?_
      refine va_get (D := E.1) (ci := 4) (v := .ref (ad 14)) (C := RX4) (T := TX4) (N := 7) hx hb hts inX4 hown hE.1 hP 0 rfl rfl 1 (by decide) f_16 (fun _ h9 => h9) rfl dX4_outlook_48 ?_
      refine va_calli (va_runV (As := []) (rest := []) ⟨hx, hb, hml, hown, hts⟩ (kX2_findLevel l E (ad 14) (ad 15) (fF 1 xn xw xf xt) (pdN A9 ((fF 1 xn xw xf xt) 2) ((fF 1 xn xw xf xt) 3) ((fF 1 xn xw xf xt) 4) ((fF 1 xn xw xf xt) 5) 12)) (cwV 0 hts gX4_outlook_X2_findLevel rfl rfl rfl (by decide +kernel) ⟨Nat.le_of_ble_eq_true rfl, Nat.le_of_ble_eq_true rfl⟩) ⟨fb_R, va_recv hE.1 hP (ci := 2) (q0 := 14) rfl rfl, fun U hU hW => ⟨rfl, (by rw [hU]; exact hP.sub (ws' := [((ad 14), .inr (2, [.ref (ad 15), .int ((fF 1 xn xw xf xt) 1), .int ((fF 1 xn xw xf xt) 2), .int ((fF 1 xn xw xf xt) 3), .int ((fF 1 xn xw xf xt) 4), .int ((fF 1 xn xw xf xt) 5)])), ((ad 15), .inl (E.2.1 0, 60, .inl (pdN A9 ((fF 1 xn xw xf xt) 2) ((fF 1 xn xw xf xt) 3) ((fF 1 xn xw xf xt) 4) ((fF 1 xn xw xf xt) 5) 12)))]) [14, 15] rfl), hE.warm hW⟩⟩ rfl rfl hl.1 rfl (lv_room (Nat.le_of_ble_eq_true rfl)) dX4_outlook_51 ⟨by first | exact Nat.le_of_ble_eq_true rfl | (show _ ≤ 2; omega), by first | exact Nat.le_of_ble_eq_true rfl | (show _ ≤ 12; omega)⟩) hS (fun q _ h => h.elim) (fun q h => h.elim) (fun r51_5 u t H1 locs ht hvm hw hB hz1 hk1 hS => ?_)
      have hP := hP.ro hk1
      generalize H1 = H at hP hS ⊢
      subst hw
      subst hC9
      subst hA9
      refine vx_ret ?_
      have e9_1 : va_up (va_up (va_up S 15 (va_cpy (S (3 + 2 * (Int32.toNatClampNeg (nI jr)))) (S 15) 0 0 60)) 14 (fF 1 xn xw xf xt)) 15 (pdN (va_cpy (S (3 + 2 * (Int32.toNatClampNeg (nI jr)))) (S 15) 0 0 60) ((fF 1 xn xw xf xt) 2) ((fF 1 xn xw xf xt) 3) ((fF 1 xn xw xf xt) 4) ((fF 1 xn xw xf xt) 5) 12) = va_up (va_up (va_up S 15 (va_cpy (S (3 + 2 * jr)) (S 15) 0 0 60)) 14 (fF 1 xn xw xf xt)) 15 (pdN (va_cpy (S (3 + 2 * jr)) (S 15) 0 0 60) ((fF 1 xn xw xf xt) 2) ((fF 1 xn xw xf xt) 3) ((fF 1 xn xw xf xt) 4) ((fF 1 xn xw xf xt) 5) 12) := by first | (simp only [if_neg c_2, nI_clamp (show jr < 2 ^ 31 by omega), if_neg c_11, eq_self, if_true, i10f, if_false]; done) | rfl
      have hB9 : va_P E.1 vwCl (dC E ad (va_up (va_up (va_up S 15 (va_cpy (S (3 + 2 * (Int32.toNatClampNeg (nI jr)))) (S 15) 0 0 60)) 14 (fF 1 xn xw xf xt)) 15 (pdN (va_cpy (S (3 + 2 * (Int32.toNatClampNeg (nI jr)))) (S 15) 0 0 60) ((fF 1 xn xw xf xt) 2) ((fF 1 xn xw xf xt) 3) ((fF 1 xn xw xf xt) 4) ((fF 1 xn xw xf xt) 5) 12)) zs rn dy bn cn tn) H := by rw [e9_1]; exact hP
      exact W.iret (v := levA (pdN (va_cpy (S (3 + 2 * jr)) (S 15) 0 0 60) ((fF 1 xn xw xf xt) 2) ((fF 1 xn xw xf xt) 3) ((fF 1 xn xw xf xt) 4) ((fF 1 xn xw xf xt) 5) 12)) hx hb hr (fun t ht hW => ⟨⟨_, (), rfl, ⟨(by first | (simp only [tWea, if_neg c_2, nI_clamp (show jr < 2 ^ 31 by omega), if_neg c_11, eq_self, if_true, i10f, if_false]; done) | (try unfold tWea; simp only [if_neg c_2, nI_clamp (show jr < 2 ^ 31 by omega), if_neg c_11, eq_self, if_true, i10f, if_false]; done) | (try unfold tWea; rfl) | rfl), (by first | (simp only [if_neg c_2, nI_clamp (show jr < 2 ^ 31 by omega), if_neg c_11, eq_self, if_true, i10f, if_false]; done) | rfl)⟩, (by subst ht; exact hB9)⟩, hS.F ht⟩) hS.2.2 dX4_outlook_54
