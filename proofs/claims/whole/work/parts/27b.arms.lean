set_option maxHeartbeats 4000000 in
set_option maxRecDepth 100000 in
theorem arm_set {p : Program} {e : Env} {s : State} {m : MethodId} {below : List Frame} {meth : Method} {c : Code} (l : Launch) (hlt : l.stackTraces = false) {b L : Nat} {xs : Nat → Int32} (hL : L ≤ 3072) (C0 : lw_At p s m meth c b L xs) {E : ev_T} {ad mm : Nat → Nat} {o0 d0 : Nat} (hE : ev_U E s) (hU9 : ex_U (fun q : Nat => s.heap.size ≤ q) s s.heap) (hLD : LD E ad mm o0 d0 (fun q : Nat => s.heap.size ≤ q)) {i cl sl : Nat} (hi : i + 6 ≤ L) (hcl : cl + 740 ≤ 601024) (hsl : sl + 3700 ≤ 7293034)
    (K : ∀ (H : Heap) (locs : List Loc) (ls : Array Slot), LX E ad mm o0 d0 H → va_S (fun q : Nat => s.heap.size ≤ q) s.heap H locs → lv_has ls 9 [(0, .ref b), (1, .ref (ad 0)), (2, .ref (mm 0)), (3, .ref o0), (4, .ref d0), (5, .int (nI i))] → W p l e room_1 s m #[Value.ref b] below meth c H locs (cl + 740) (sl + 3700) (lw_Z below #[Value.ref b] s) (F0 m 1642 ls []))
    {H : Heap} {locs : List Loc} {ls : Array Slot} (hX0 : LX E ad mm o0 d0 H) (hS : va_S (fun q : Nat => s.heap.size ≤ q) s.heap H locs) (hl : lv_has ls 9 [(0, .ref b), (1, .ref (ad 0)), (2, .ref (mm 0)), (3, .ref o0), (4, .ref d0), (5, .int (nI i))]) : W p l e room_1 s m #[Value.ref b] below meth c H locs cl sl (lw_Z below #[Value.ref b] s) (F0 m 452 ls []) := by
  obtain ⟨hx, hb, hr, hml, hown, hts0, hX, hbl, hlocks, hgv⟩ := id C0
  have hts : ∀ w ∈ wsL_law, w.before #[Value.ref b] s = true := fun w h => hts0 w (wsL_law_in w h)
  have hown : s.vm.findClass RL = some m.cls := hown
  obtain ⟨S, zs, rn, dy, bn, cn, tn, th, NU, WE, AT, BU, AV, LS, LT, f0, g0, hR, hPd, hPo, hPm, hPg⟩ := hX0
  obtain ⟨d1, d2, d3, d4, a12, a13, a14, a23, a24, a34⟩ := hLD
  have hA : ∀ q : Nat, s.heap.size ≤ q → (fun q : Nat => s.heap.size ≤ q) q := fun _ h => h
  have hbA : ¬ (fun q : Nat => s.heap.size ≤ q) b := Nat.not_le.mpr hbl
  obtain ⟨h6, h60, h200, h20⟩ := hR.1
  have hz := hR.hz
  refine lv_aload_n hx hb dL_law_452 rfl (lv_at hl 1 rfl) ?_
  refine lv_aload_n hx hb dL_law_453 rfl (lv_at hl 0 rfl) ?_
  refine lv_iload hx hb dL_law_454 (lv_at hl 5 rfl) ?_
  refine lv_iconst (v := 1) hx hb dL_law_456 (by decide) ?_
  refine mz_addN hx hb i 1 dL_law_457 ?_
  refine la_sld hx hb hX hbl hbA hS (i + 1) (by omega) hL dL_law_458 ?_
  refine lv_aload_n hx hb dL_law_459 rfl (lv_at hl 0 rfl) ?_
  refine lv_iload hx hb dL_law_460 (lv_at hl 5 rfl) ?_
  refine lv_iconst (v := 2) hx hb dL_law_462 (by decide) ?_
  refine mz_addN hx hb i 2 dL_law_463 ?_
  refine la_sld hx hb hX hbl hbA hS (i + 2) (by omega) hL dL_law_464 ?_
  refine lv_aload_n hx hb dL_law_465 rfl (lv_at hl 0 rfl) ?_
  refine lv_iload hx hb dL_law_466 (lv_at hl 5 rfl) ?_
  refine lv_iconst (v := 3) hx hb dL_law_468 (by decide) ?_
  refine mz_addN hx hb i 3 dL_law_469 ?_
  refine la_sld hx hb hX hbl hbA hS (i + 3) (by omega) hL dL_law_470 ?_
  refine lv_aload_n hx hb dL_law_471 rfl (lv_at hl 0 rfl) ?_
  refine lv_iload hx hb dL_law_472 (lv_at hl 5 rfl) ?_
  refine lv_iconst (v := 4) hx hb dL_law_474 (by decide) ?_
  refine mz_addN hx hb i 4 dL_law_475 ?_
  refine la_sld hx hb hX hbl hbA hS (i + 4) (by omega) hL dL_law_476 ?_
  refine lv_aload_n hx hb dL_law_477 rfl (lv_at hl 3 rfl) ?_
  have hPw : va_P E.1 vwCl ((dC E ad S zs rn dy bn cn tn) ++ [oL E o0 f0]) H := hPd.app hPo
  have hDw : va_D (fun q : Nat => s.heap.size ≤ q) ((dC E ad S zs rn dy bn cn tn) ++ [oL E o0 f0]) := (d1 _ _ _ _ _ _ _).app (d2 _) (a12 _ _ _ _ _ _ _ _)
  have hFc := fr_free hDw hS hA
  refine va_calli (vx_runSW (As := [.ref (ad 0), .int (xs (i + 1)), .int (xs (i + 2)), .int (xs (i + 3)), .int (xs (i + 4)), .ref o0]) (rest := []) ⟨hx, hb, hml, hown, hts⟩ (kL_set l hlt E ad S zs rn dy bn cn tn (xs (i + 1)) (xs (i + 2)) (xs (i + 3)) (xs (i + 4)) o0 f0 H.size (by first | omega | assumption | exact h60 | exact h6 | exact h20 | exact h200) (by first | omega | assumption | exact h60 | exact h6 | exact h20 | exact h200)) (vx_cwSW 6 hts gL_law_L_set rfl rfl rfl (by decide +kernel) ⟨Nat.le_of_ble_eq_true rfl, Nat.le_of_ble_eq_true rfl⟩) ⟨fb_Y, fun U hU hW => ⟨rfl, by rw [hU], by rw [hU]; exact hPw, hDw.weaken (fun _ _ _ _ => trivial), hE.warm hW, hU9.to hS hFc hU hW⟩⟩ rfl rfl hl.1 rfl (lv_room (Nat.le_of_ble_eq_true rfl)) dL_law_478 ⟨by show _ ≤ 601024; omega, by show _ ≤ 7293034; omega⟩) hS (fun q _ h => hFc q h) hFc (fun r9 k t H1 locs ht hvm hw hB hz1 hk1 hS => ?_)
  obtain ⟨hr9, hk9⟩ := hw
  subst hr9
  rw [ht] at hB
  have hPm := ap_keep (ap.both (a13 _ _ _ _ _ _ _ _ _ _ _ _ _ _ _ _ _ _ _ _) (a23 _ _ _ _ _ _ _ _ _ _ _ _ _ _)) hPm hk1
  have hPg := ap_keep (ap.both (a14 _ _ _ _ _ _ _ _) (a24 _ _)) hPg hk1
  have hle9 := tSet_le (xs (i + 1)) (xs (i + 2)) (xs (i + 3)) (xs (i + 4)) rn
  rcases Nat.eq_zero_or_pos k with hk0 | hk0
  · subst hk0
    have hB : va_P E.1 vwCl ((dC E ad (va_up S (3 + 2 * (Int32.toNatClampNeg (xs (i + 1)))) (pN (S (3 + 2 * (Int32.toNatClampNeg (xs (i + 1))))) (Int32.toNatClampNeg (xs (i + 2))) (Int32.toNatClampNeg (xs (i + 3))) (xs (i + 4)))) zs rn dy bn cn tn) ++ [oL E o0 (vp_updL f0 0 (Int32.toInt64 (S (3 + 2 * (Int32.toNatClampNeg (xs (i + 1)))) ((Int32.toNatClampNeg (xs (i + 2))) * 5 + (Int32.toNatClampNeg (xs (i + 3)))))))]) H1 := hB
    have hPd := fr_l hB
    have hPo := fr_r hB
    clear hPw hDw hFc
    generalize H1 = H at hPd hPo hPm hPg hS ⊢
    refine lv_istore (lv' := [(6, .int 0), (0, .ref b), (1, .ref (ad 0)), (2, .ref (mm 0)), (3, .ref o0), (4, .ref d0), (5, .int (nI i))]) hx hb dL_law_481 hl (by decide) rfl (fun ls hl => ?_)
    refine lv_aload_n hx hb dL_law_483 rfl (lv_at hl 3 rfl) ?_
    refine lv_aload_n hx hb dL_law_484 rfl (lv_at hl 1 rfl) ?_
    refine lv_iload hx hb dL_law_485 (lv_at hl 6 rfl) ?_
    refine lv_iconst (v := 1) hx hb dL_law_487 (by decide) ?_
    refine mz_addN hx hb i 1 dL_law_488 ?_
    refine la_sld hx hb hX hbl hbA hS (i + 1) (by omega) hL dL_law_489 ?_
    refine lv_aload_n hx hb dL_law_490 rfl (lv_at hl 1 rfl) ?_
    refine lv_iload hx hb dL_law_491 (lv_at hl 6 rfl) ?_
    refine lv_iconst (v := 2) hx hb dL_law_493 (by decide) ?_
    refine mz_addN hx hb i 2 dL_law_494 ?_
    refine la_sld hx hb hX hbl hbA hS (i + 2) (by omega) hL dL_law_495 ?_
    refine lv_aload_n hx hb dL_law_496 rfl (lv_at hl 1 rfl) ?_
    refine lv_iload hx hb dL_law_497 (lv_at hl 6 rfl) ?_
    refine lv_iconst (v := 3) hx hb dL_law_499 (by decide) ?_
    refine mz_addN hx hb i 3 dL_law_500 ?_
    refine la_sld hx hb hX hbl hbA hS (i + 3) (by omega) hL dL_law_501 ?_
    refine lv_aload_n hx hb dL_law_502 rfl (lv_at hl 1 rfl) ?_
    refine lv_iload hx hb dL_law_503 (lv_at hl 6 rfl) ?_
    refine lv_iconst (v := 4) hx hb dL_law_505 (by decide) ?_
    refine mz_addN hx hb i 4 dL_law_506 ?_
    refine la_sld hx hb hX hbl hbA hS (i + 4) (by omega) hL dL_law_507 ?_
    have hDc : va_D (fun q : Nat => s.heap.size ≤ q) (mC E mm th dy rn cn tn NU WE AT zs BU AV LS LT) := d3 _ _ _ _ _ _ _ _ _ _ _ _ _
    have hFc := fr_free hDc hS hA
    refine va_calli (va_runV (As := [.int (xs (i + 1)), .int (xs (i + 2)), .int (xs (i + 3)), .int (xs (i + 4))]) (rest := []) ⟨hx, hb, hml, hown, hts⟩ (kX5_set l E (mm 0) (mm 1) (mm 2) (mm 3) (mm 4) (mm 5) (mm 6) (mm 7) (mm 8) th dy rn cn tn NU WE AT zs BU AV LS LT (xs (i + 1)) (xs (i + 2)) (xs (i + 3)) (xs (i + 4)) H.size (by first | omega | assumption | exact hz) (by first | omega | assumption | exact hz)) (cwV 4 hts gL_law_X5_set rfl rfl rfl (by decide +kernel) ⟨Nat.le_of_ble_eq_true rfl, Nat.le_of_ble_eq_true rfl⟩) ⟨fb_W, va_recv hE.1 hPm (ci := 5) (q0 := 0) rfl rfl, fun U hU hW => ⟨rfl, by rw [hU], by rw [hU]; exact hPm, hDc.weaken (fun _ _ _ _ => trivial), hE.warm hW⟩⟩ rfl rfl hl.1 rfl (lv_room (Nat.le_of_ble_eq_true rfl)) dL_law_508 ⟨by show _ ≤ 601024; omega, by show _ ≤ 7293034; omega⟩) hS (fun q _ h => hFc q h) hFc (fun r508 u t H1 locs ht hvm hw hB hz1 hk1 hS => ?_)
    rw [ht] at hB
    have hPd := ap_keep (a13 _ _ _ _ _ _ _ _ _ _ _ _ _ _ _ _ _ _ _ _).comm hPd hk1
    have hPo := ap_keep (a23 _ _ _ _ _ _ _ _ _ _ _ _ _ _).comm hPo hk1
    have hPg := ap_keep (a34 _ _ _ _ _ _ _ _ _ _ _ _ _ _) hPg hk1
    obtain ⟨hk5, hw⟩ := hw
    have e5 : u = 0 := hk5.trans hk9.symm
    subst e5
    have hw := hw rfl
    have hPm : va_P E.1 vwCl (mC E mm 0 dy rn cn tn (upd NU ((12 * (Int32.toNatClampNeg (xs (i + 1))) + (Int32.toNatClampNeg (xs (i + 2)))) * 5 + (Int32.toNatClampNeg (xs (i + 3)))) (xs (i + 4))) WE AT zs BU AV LS LT) H1 := hB
    clear hDc hFc
    generalize H1 = H at hPd hPo hPm hPg hS ⊢
    subst hw
    obtain ⟨heq, hR⟩ := op_set hR (xs (i + 1)) (xs (i + 2)) (xs (i + 3)) (xs (i + 4)) hk9
    refine lv_istore (lv' := [(7, .int (NU ((12 * (Int32.toNatClampNeg (xs (i + 1))) + (Int32.toNatClampNeg (xs (i + 2)))) * 5 + (Int32.toNatClampNeg (xs (i + 3)))))), (6, .int 0), (0, .ref b), (1, .ref (ad 0)), (2, .ref (mm 0)), (3, .ref o0), (4, .ref d0), (5, .int (nI i))]) hx hb dL_law_511 hl (by decide) rfl (fun ls hl => ?_)
    refine lv_aload_n hx hb dL_law_513 rfl (lv_at hl 4 rfl) ?_
    have hPt : va_P E.1 vwCl [(mm 0, .inr (5, [.int 0, .int (nI dy), .int (nI rn), .ref (mm 1), .ref (mm 2), .ref (mm 3), .ref (mm 4), .ref (mm 5), .int (nI cn), .ref (mm 6), .int (nI tn), .ref (mm 7), .ref (mm 8)]))] H := hPm.sub [0] rfl
    refine va_calli (va_runV (As := []) (rest := []) ⟨hx, hb, hml, hown, hts⟩ (kX5_thrown l E (mm 0) (mm 1) (mm 2) (mm 3) (mm 4) (mm 5) (mm 6) (mm 7) (mm 8) 0 dy rn cn tn ) (cwV 0 hts gL_law_X5_thrown rfl rfl rfl (by decide +kernel) ⟨Nat.le_of_ble_eq_true rfl, Nat.le_of_ble_eq_true rfl⟩) ⟨fb_R, va_recv hE.1 hPm (ci := 5) (q0 := 0) rfl rfl, fun U hU hW => ⟨rfl, by rw [hU]; exact hPt, hE.warm hW⟩⟩ rfl rfl hl.1 rfl (lv_room (Nat.le_of_ble_eq_true rfl)) dL_law_514 ⟨by show _ ≤ 601024; omega, by show _ ≤ 7293034; omega⟩) hS (fun q _ h => h.elim) (fun q h => h.elim) (fun r514 u t H1 locs ht hvm hw hB hz1 hk1 hS => ?_)
    have hPd := hPd.ro hk1
    have hPo := hPo.ro hk1
    have hPm := hPm.ro hk1
    have hPg := hPg.ro hk1
    generalize H1 = H at hPd hPo hPm hPg hS ⊢
    subst hw
    refine lv_iload hx hb dL_law_517 (lv_at hl 1 rfl) ?_
    refine mz_eqN hx hb 0 0 (tgt := 524) dL_law_519 (by decide) (by omega) (by omega) (fun _ => ?_) (fun c9 => absurd rfl c9)
    refine lv_iload hx hb dL_law_524 (lv_at hl 1 rfl) ?_
    refine lv_if_ne (tgt := 541) hx hb dL_law_526 (by decide) (fun c9 => absurd rfl c9) (fun _ => ?_)
    refine lv_aload_n hx hb dL_law_529 rfl (lv_at hl 5 rfl) ?_
    refine lv_iconst (v := 0) hx hb dL_law_530 (by decide) ?_
    refine la_lld hx hb hE hPo dL_law_531 ?_
    refine lv_iload hx hb dL_law_532 (lv_at hl 0 rfl) ?_
    refine lv_i2l hx hb dL_law_534 rfl ?_
    refine la_eqL hx hb (congrArg Int32.toInt64 heq) (tgt := 541) dL_law_535 dL_law_536 (by decide) ?_
    refine lv_goto (tgt := 1642) hx hb dL_law_541 (by decide) ?_
    refine W.widen (k := cl + 740) (n := sl + 3700) (by omega) (by omega) ?_
    exact K _ _ _ ⟨_, _, _, _, _, _, _, _, _, _, _, _, _, _, _, _, _, hR, hPd, hPo, hPm, hPg⟩ hS (lv_sub hl [2, 3, 4, 5, 6, 7] rfl)
  · obtain ⟨k, rfl⟩ : ∃ k9, k = k9 + 1 := ⟨k - 1, by omega⟩
    have hB : va_P E.1 vwCl ((dC E ad S zs rn dy bn cn tn) ++ [oL E o0 f0]) H1 := hB
    have hPd := fr_l hB
    have hPo := fr_r hB
    clear hPw hDw hFc
    generalize H1 = H at hPd hPo hPm hPg hS ⊢
    refine lv_istore (lv' := [(6, .int (nI (k + 1))), (0, .ref b), (1, .ref (ad 0)), (2, .ref (mm 0)), (3, .ref o0), (4, .ref d0), (5, .int (nI i))]) hx hb dL_law_481 hl (by decide) rfl (fun ls hl => ?_)
    refine lv_aload_n hx hb dL_law_483 rfl (lv_at hl 3 rfl) ?_
    refine lv_aload_n hx hb dL_law_484 rfl (lv_at hl 1 rfl) ?_
    refine lv_iload hx hb dL_law_485 (lv_at hl 6 rfl) ?_
    refine lv_iconst (v := 1) hx hb dL_law_487 (by decide) ?_
    refine mz_addN hx hb i 1 dL_law_488 ?_
    refine la_sld hx hb hX hbl hbA hS (i + 1) (by omega) hL dL_law_489 ?_
    refine lv_aload_n hx hb dL_law_490 rfl (lv_at hl 1 rfl) ?_
    refine lv_iload hx hb dL_law_491 (lv_at hl 6 rfl) ?_
    refine lv_iconst (v := 2) hx hb dL_law_493 (by decide) ?_
    refine mz_addN hx hb i 2 dL_law_494 ?_
    refine la_sld hx hb hX hbl hbA hS (i + 2) (by omega) hL dL_law_495 ?_
    refine lv_aload_n hx hb dL_law_496 rfl (lv_at hl 1 rfl) ?_
    refine lv_iload hx hb dL_law_497 (lv_at hl 6 rfl) ?_
    refine lv_iconst (v := 3) hx hb dL_law_499 (by decide) ?_
    refine mz_addN hx hb i 3 dL_law_500 ?_
    refine la_sld hx hb hX hbl hbA hS (i + 3) (by omega) hL dL_law_501 ?_
    refine lv_aload_n hx hb dL_law_502 rfl (lv_at hl 1 rfl) ?_
    refine lv_iload hx hb dL_law_503 (lv_at hl 6 rfl) ?_
    refine lv_iconst (v := 4) hx hb dL_law_505 (by decide) ?_
    refine mz_addN hx hb i 4 dL_law_506 ?_
    refine la_sld hx hb hX hbl hbA hS (i + 4) (by omega) hL dL_law_507 ?_
    have hDc : va_D (fun q : Nat => s.heap.size ≤ q) (mC E mm th dy rn cn tn NU WE AT zs BU AV LS LT) := d3 _ _ _ _ _ _ _ _ _ _ _ _ _
    have hFc := fr_free hDc hS hA
    refine va_calli (va_runV (As := [.int (xs (i + 1)), .int (xs (i + 2)), .int (xs (i + 3)), .int (xs (i + 4))]) (rest := []) ⟨hx, hb, hml, hown, hts⟩ (kX5_set l E (mm 0) (mm 1) (mm 2) (mm 3) (mm 4) (mm 5) (mm 6) (mm 7) (mm 8) th dy rn cn tn NU WE AT zs BU AV LS LT (xs (i + 1)) (xs (i + 2)) (xs (i + 3)) (xs (i + 4)) H.size (by first | omega | assumption | exact hz) (by first | omega | assumption | exact hz)) (cwV 4 hts gL_law_X5_set rfl rfl rfl (by decide +kernel) ⟨Nat.le_of_ble_eq_true rfl, Nat.le_of_ble_eq_true rfl⟩) ⟨fb_W, va_recv hE.1 hPm (ci := 5) (q0 := 0) rfl rfl, fun U hU hW => ⟨rfl, by rw [hU], by rw [hU]; exact hPm, hDc.weaken (fun _ _ _ _ => trivial), hE.warm hW⟩⟩ rfl rfl hl.1 rfl (lv_room (Nat.le_of_ble_eq_true rfl)) dL_law_508 ⟨by show _ ≤ 601024; omega, by show _ ≤ 7293034; omega⟩) hS (fun q _ h => hFc q h) hFc (fun r508 u t H1 locs ht hvm hw hB hz1 hk1 hS => ?_)
    rw [ht] at hB
    have hPd := ap_keep (a13 _ _ _ _ _ _ _ _ _ _ _ _ _ _ _ _ _ _ _ _).comm hPd hk1
    have hPo := ap_keep (a23 _ _ _ _ _ _ _ _ _ _ _ _ _ _).comm hPo hk1
    have hPg := ap_keep (a34 _ _ _ _ _ _ _ _ _ _ _ _ _ _) hPg hk1
    obtain ⟨hk5, hw⟩ := hw
    have e5 : u = k + 1 := hk5.trans hk9.symm
    subst e5
    have hPm : va_P E.1 vwCl (mC E mm (nI (k + 1)) dy rn cn tn NU WE AT zs BU AV LS LT) H1 := hB
    clear hDc hFc
    generalize H1 = H at hPd hPo hPm hPg hS ⊢
    refine lv_istore (lv' := [(7, .int r508), (6, .int (nI (k + 1))), (0, .ref b), (1, .ref (ad 0)), (2, .ref (mm 0)), (3, .ref o0), (4, .ref d0), (5, .int (nI i))]) hx hb dL_law_511 hl (by decide) rfl (fun ls hl => ?_)
    refine lv_aload_n hx hb dL_law_513 rfl (lv_at hl 4 rfl) ?_
    have hPt : va_P E.1 vwCl [(mm 0, .inr (5, [.int (nI (k + 1)), .int (nI dy), .int (nI rn), .ref (mm 1), .ref (mm 2), .ref (mm 3), .ref (mm 4), .ref (mm 5), .int (nI cn), .ref (mm 6), .int (nI tn), .ref (mm 7), .ref (mm 8)]))] H := hPm.sub [0] rfl
    refine va_calli (va_runV (As := []) (rest := []) ⟨hx, hb, hml, hown, hts⟩ (kX5_thrown l E (mm 0) (mm 1) (mm 2) (mm 3) (mm 4) (mm 5) (mm 6) (mm 7) (mm 8) (nI (k + 1)) dy rn cn tn ) (cwV 0 hts gL_law_X5_thrown rfl rfl rfl (by decide +kernel) ⟨Nat.le_of_ble_eq_true rfl, Nat.le_of_ble_eq_true rfl⟩) ⟨fb_R, va_recv hE.1 hPm (ci := 5) (q0 := 0) rfl rfl, fun U hU hW => ⟨rfl, by rw [hU]; exact hPt, hE.warm hW⟩⟩ rfl rfl hl.1 rfl (lv_room (Nat.le_of_ble_eq_true rfl)) dL_law_514 ⟨by show _ ≤ 601024; omega, by show _ ≤ 7293034; omega⟩) hS (fun q _ h => h.elim) (fun q h => h.elim) (fun r514 u t H1 locs ht hvm hw hB hz1 hk1 hS => ?_)
    have hPd := hPd.ro hk1
    have hPo := hPo.ro hk1
    have hPm := hPm.ro hk1
    have hPg := hPg.ro hk1
    generalize H1 = H at hPd hPo hPm hPg hS ⊢
    subst hw
    refine lv_iload hx hb dL_law_517 (lv_at hl 1 rfl) ?_
    refine mz_eqN hx hb (k + 1) (k + 1) (tgt := 524) dL_law_519 (by decide) (by omega) (by omega) (fun _ => ?_) (fun c9 => absurd rfl c9)
    refine lv_iload hx hb dL_law_524 (lv_at hl 1 rfl) ?_
    refine mz_ifneN hx hb (k + 1) (tgt := 541) dL_law_526 (by decide) (by omega) (fun _ => ?_) (fun c9 => absurd c9 (by omega))
    refine lv_goto (tgt := 1642) hx hb dL_law_541 (by decide) ?_
    refine W.widen (k := cl + 740) (n := sl + 3700) (by omega) (by omega) ?_
    exact K _ _ _ ⟨_, _, _, _, _, _, _, _, _, _, _, _, _, _, _, _, _, hR, hPd, hPo, hPm, hPg⟩ hS (lv_sub hl [2, 3, 4, 5, 6, 7] rfl)
set_option maxHeartbeats 4000000 in
set_option maxRecDepth 100000 in
theorem arm_problem {p : Program} {e : Env} {s : State} {m : MethodId} {below : List Frame} {meth : Method} {c : Code} (l : Launch) (hlt : l.stackTraces = false) {b L : Nat} {xs : Nat → Int32} (hL : L ≤ 3072) (C0 : lw_At p s m meth c b L xs) {E : ev_T} {ad mm : Nat → Nat} {o0 d0 : Nat} (hE : ev_U E s) (hU9 : ex_U (fun q : Nat => s.heap.size ≤ q) s s.heap) (hLD : LD E ad mm o0 d0 (fun q : Nat => s.heap.size ≤ q)) {i cl sl : Nat} (hi : i + 6 ≤ L) (hcl : cl + 740 ≤ 601024) (hsl : sl + 3700 ≤ 7293034)
    (K : ∀ (H : Heap) (locs : List Loc) (ls : Array Slot), LX E ad mm o0 d0 H → va_S (fun q : Nat => s.heap.size ≤ q) s.heap H locs → lv_has ls 9 [(0, .ref b), (1, .ref (ad 0)), (2, .ref (mm 0)), (3, .ref o0), (4, .ref d0), (5, .int (nI i))] → W p l e room_1 s m #[Value.ref b] below meth c H locs (cl + 740) (sl + 3700) (lw_Z below #[Value.ref b] s) (F0 m 1642 ls []))
    {H : Heap} {locs : List Loc} {ls : Array Slot} (hX0 : LX E ad mm o0 d0 H) (hS : va_S (fun q : Nat => s.heap.size ≤ q) s.heap H locs) (hl : lv_has ls 9 [(0, .ref b), (1, .ref (ad 0)), (2, .ref (mm 0)), (3, .ref o0), (4, .ref d0), (5, .int (nI i))]) : W p l e room_1 s m #[Value.ref b] below meth c H locs cl sl (lw_Z below #[Value.ref b] s) (F0 m 544 ls []) := by
  obtain ⟨hx, hb, hr, hml, hown, hts0, hX, hbl, hlocks, hgv⟩ := id C0
  have hts : ∀ w ∈ wsL_law, w.before #[Value.ref b] s = true := fun w h => hts0 w (wsL_law_in w h)
  have hown : s.vm.findClass RL = some m.cls := hown
  obtain ⟨S, zs, rn, dy, bn, cn, tn, th, NU, WE, AT, BU, AV, LS, LT, f0, g0, hR, hPd, hPo, hPm, hPg⟩ := hX0
  obtain ⟨d1, d2, d3, d4, a12, a13, a14, a23, a24, a34⟩ := hLD
  have hA : ∀ q : Nat, s.heap.size ≤ q → (fun q : Nat => s.heap.size ≤ q) q := fun _ h => h
  have hbA : ¬ (fun q : Nat => s.heap.size ≤ q) b := Nat.not_le.mpr hbl
  obtain ⟨h6, h60, h200, h20⟩ := hR.1
  have hz := hR.hz
  refine lv_aload_n hx hb dL_law_544 rfl (lv_at hl 1 rfl) ?_
  refine lv_aload_n hx hb dL_law_545 rfl (lv_at hl 0 rfl) ?_
  refine lv_iload hx hb dL_law_546 (lv_at hl 5 rfl) ?_
  refine lv_iconst (v := 1) hx hb dL_law_548 (by decide) ?_
  refine mz_addN hx hb i 1 dL_law_549 ?_
  refine la_sld hx hb hX hbl hbA hS (i + 1) (by omega) hL dL_law_550 ?_
  refine lv_aload_n hx hb dL_law_551 rfl (lv_at hl 0 rfl) ?_
  refine lv_iload hx hb dL_law_552 (lv_at hl 5 rfl) ?_
  refine lv_iconst (v := 2) hx hb dL_law_554 (by decide) ?_
  refine mz_addN hx hb i 2 dL_law_555 ?_
  refine la_sld hx hb hX hbl hbA hS (i + 2) (by omega) hL dL_law_556 ?_
  refine lv_aload_n hx hb dL_law_557 rfl (lv_at hl 0 rfl) ?_
  refine lv_iload hx hb dL_law_558 (lv_at hl 5 rfl) ?_
  refine lv_iconst (v := 3) hx hb dL_law_560 (by decide) ?_
  refine mz_addN hx hb i 3 dL_law_561 ?_
  refine la_sld hx hb hX hbl hbA hS (i + 3) (by omega) hL dL_law_562 ?_
  refine lv_aload_n hx hb dL_law_563 rfl (lv_at hl 3 rfl) ?_
  have hPw : va_P E.1 vwCl ((dC E ad S zs rn dy bn cn tn) ++ [oL E o0 f0]) H := hPd.app hPo
  have hDw : va_D (fun q : Nat => s.heap.size ≤ q) ((dC E ad S zs rn dy bn cn tn) ++ [oL E o0 f0]) := (d1 _ _ _ _ _ _ _).app (d2 _) (a12 _ _ _ _ _ _ _ _)
  have hFc := fr_free hDw hS hA
  refine va_calli (vx_runSW (As := [.ref (ad 0), .int (xs (i + 1)), .int (xs (i + 2)), .int (xs (i + 3)), .ref o0]) (rest := []) ⟨hx, hb, hml, hown, hts⟩ (kL_problem l hlt E ad S zs rn dy bn cn tn (xs (i + 1)) (xs (i + 2)) (xs (i + 3)) o0 f0 H.size (by first | omega | assumption | exact h60 | exact h6 | exact h20 | exact h200) (by first | omega | assumption | exact h60 | exact h6 | exact h20 | exact h200)) (vx_cwSW 5 hts gL_law_L_problem rfl rfl rfl (by decide +kernel) ⟨Nat.le_of_ble_eq_true rfl, Nat.le_of_ble_eq_true rfl⟩) ⟨fb_Y, fun U hU hW => ⟨rfl, by rw [hU], by rw [hU]; exact hPw, hDw.weaken (fun _ _ _ _ => trivial), hE.warm hW, hU9.to hS hFc hU hW⟩⟩ rfl rfl hl.1 rfl (lv_room (Nat.le_of_ble_eq_true rfl)) dL_law_564 ⟨by show _ ≤ 601024; omega, by show _ ≤ 7293034; omega⟩) hS (fun q _ h => hFc q h) hFc (fun r9 k t H1 locs ht hvm hw hB hz1 hk1 hS => ?_)
  obtain ⟨hr9, hk9⟩ := hw
  subst hr9
  rw [ht] at hB
  have hPm := ap_keep (ap.both (a13 _ _ _ _ _ _ _ _ _ _ _ _ _ _ _ _ _ _ _ _) (a23 _ _ _ _ _ _ _ _ _ _ _ _ _ _)) hPm hk1
  have hPg := ap_keep (ap.both (a14 _ _ _ _ _ _ _ _) (a24 _ _)) hPg hk1
  have hle9 := tPrb_le (xs (i + 1)) (xs (i + 2)) (xs (i + 3)) rn
  rcases Nat.eq_zero_or_pos k with hk0 | hk0
  · subst hk0
    have hB : va_P E.1 vwCl ((dC E ad S zs rn dy bn cn tn) ++ [oL E o0 (vp_updL f0 0 (Int32.toInt64 (prR (rw5 (S (3 + 2 * (Int32.toNatClampNeg (xs (i + 1))))) (Int32.toNatClampNeg (xs (i + 2)))) (Int32.toNatClampNeg (xs (i + 3))))))]) H1 := hB
    have hPd := fr_l hB
    have hPo := fr_r hB
    clear hPw hDw hFc
    generalize H1 = H at hPd hPo hPm hPg hS ⊢
    refine lv_istore (lv' := [(6, .int 0), (0, .ref b), (1, .ref (ad 0)), (2, .ref (mm 0)), (3, .ref o0), (4, .ref d0), (5, .int (nI i))]) hx hb dL_law_567 hl (by decide) rfl (fun ls hl => ?_)
    refine lv_aload_n hx hb dL_law_569 rfl (lv_at hl 3 rfl) ?_
    refine lv_aload_n hx hb dL_law_570 rfl (lv_at hl 1 rfl) ?_
    refine lv_iload hx hb dL_law_571 (lv_at hl 6 rfl) ?_
    refine lv_iconst (v := 1) hx hb dL_law_573 (by decide) ?_
    refine mz_addN hx hb i 1 dL_law_574 ?_
    refine la_sld hx hb hX hbl hbA hS (i + 1) (by omega) hL dL_law_575 ?_
    refine lv_aload_n hx hb dL_law_576 rfl (lv_at hl 1 rfl) ?_
    refine lv_iload hx hb dL_law_577 (lv_at hl 6 rfl) ?_
    refine lv_iconst (v := 2) hx hb dL_law_579 (by decide) ?_
    refine mz_addN hx hb i 2 dL_law_580 ?_
    refine la_sld hx hb hX hbl hbA hS (i + 2) (by omega) hL dL_law_581 ?_
    refine lv_aload_n hx hb dL_law_582 rfl (lv_at hl 1 rfl) ?_
    refine lv_iload hx hb dL_law_583 (lv_at hl 6 rfl) ?_
    refine lv_iconst (v := 3) hx hb dL_law_585 (by decide) ?_
    refine mz_addN hx hb i 3 dL_law_586 ?_
    refine la_sld hx hb hX hbl hbA hS (i + 3) (by omega) hL dL_law_587 ?_
    have hDc : va_D (fun q : Nat => s.heap.size ≤ q) (mC E mm th dy rn cn tn NU WE AT zs BU AV LS LT) := d3 _ _ _ _ _ _ _ _ _ _ _ _ _
    have hFc := fr_free hDc hS hA
    refine va_calli (va_runV (As := [.int (xs (i + 1)), .int (xs (i + 2)), .int (xs (i + 3))]) (rest := []) ⟨hx, hb, hml, hown, hts⟩ (kX5_problem l E (mm 0) (mm 1) (mm 2) (mm 3) (mm 4) (mm 5) (mm 6) (mm 7) (mm 8) th dy rn cn tn NU WE AT zs BU AV LS LT (xs (i + 1)) (xs (i + 2)) (xs (i + 3)) H.size (by first | omega | assumption | exact hz) (by first | omega | assumption | exact hz)) (cwV 3 hts gL_law_X5_problem rfl rfl rfl (by decide +kernel) ⟨Nat.le_of_ble_eq_true rfl, Nat.le_of_ble_eq_true rfl⟩) ⟨fb_W, va_recv hE.1 hPm (ci := 5) (q0 := 0) rfl rfl, fun U hU hW => ⟨rfl, by rw [hU], by rw [hU]; exact hPm, hDc.weaken (fun _ _ _ _ => trivial), hE.warm hW⟩⟩ rfl rfl hl.1 rfl (lv_room (Nat.le_of_ble_eq_true rfl)) dL_law_588 ⟨by show _ ≤ 601024; omega, by show _ ≤ 7293034; omega⟩) hS (fun q _ h => hFc q h) hFc (fun r588 u t H1 locs ht hvm hw hB hz1 hk1 hS => ?_)
    rw [ht] at hB
    have hPd := ap_keep (a13 _ _ _ _ _ _ _ _ _ _ _ _ _ _ _ _ _ _ _ _).comm hPd hk1
    have hPo := ap_keep (a23 _ _ _ _ _ _ _ _ _ _ _ _ _ _).comm hPo hk1
    have hPg := ap_keep (a34 _ _ _ _ _ _ _ _ _ _ _ _ _ _) hPg hk1
    obtain ⟨hk5, hw⟩ := hw
    have e5 : u = 0 := hk5.trans hk9.symm
    subst e5
    have hw := hw rfl
    have hPm : va_P E.1 vwCl (mC E mm 0 dy rn cn tn NU WE AT zs BU AV LS LT) H1 := hB
    clear hDc hFc
    generalize H1 = H at hPd hPo hPm hPg hS ⊢
    subst hw
    have heq := op_problem hR (xs (i + 1)) (xs (i + 2)) (xs (i + 3)) hk9
    refine lv_istore (lv' := [(7, .int (prR (rwM NU ((12 * (Int32.toNatClampNeg (xs (i + 1))) + (Int32.toNatClampNeg (xs (i + 2)))) * 5)) (Int32.toNatClampNeg (xs (i + 3))))), (6, .int 0), (0, .ref b), (1, .ref (ad 0)), (2, .ref (mm 0)), (3, .ref o0), (4, .ref d0), (5, .int (nI i))]) hx hb dL_law_591 hl (by decide) rfl (fun ls hl => ?_)
    refine lv_aload_n hx hb dL_law_593 rfl (lv_at hl 4 rfl) ?_
    have hPt : va_P E.1 vwCl [(mm 0, .inr (5, [.int 0, .int (nI dy), .int (nI rn), .ref (mm 1), .ref (mm 2), .ref (mm 3), .ref (mm 4), .ref (mm 5), .int (nI cn), .ref (mm 6), .int (nI tn), .ref (mm 7), .ref (mm 8)]))] H := hPm.sub [0] rfl
    refine va_calli (va_runV (As := []) (rest := []) ⟨hx, hb, hml, hown, hts⟩ (kX5_thrown l E (mm 0) (mm 1) (mm 2) (mm 3) (mm 4) (mm 5) (mm 6) (mm 7) (mm 8) 0 dy rn cn tn ) (cwV 0 hts gL_law_X5_thrown rfl rfl rfl (by decide +kernel) ⟨Nat.le_of_ble_eq_true rfl, Nat.le_of_ble_eq_true rfl⟩) ⟨fb_R, va_recv hE.1 hPm (ci := 5) (q0 := 0) rfl rfl, fun U hU hW => ⟨rfl, by rw [hU]; exact hPt, hE.warm hW⟩⟩ rfl rfl hl.1 rfl (lv_room (Nat.le_of_ble_eq_true rfl)) dL_law_594 ⟨by show _ ≤ 601024; omega, by show _ ≤ 7293034; omega⟩) hS (fun q _ h => h.elim) (fun q h => h.elim) (fun r594 u t H1 locs ht hvm hw hB hz1 hk1 hS => ?_)
    have hPd := hPd.ro hk1
    have hPo := hPo.ro hk1
    have hPm := hPm.ro hk1
    have hPg := hPg.ro hk1
    generalize H1 = H at hPd hPo hPm hPg hS ⊢
    subst hw
    refine lv_iload hx hb dL_law_597 (lv_at hl 1 rfl) ?_
    refine mz_eqN hx hb 0 0 (tgt := 604) dL_law_599 (by decide) (by omega) (by omega) (fun _ => ?_) (fun c9 => absurd rfl c9)
    refine lv_iload hx hb dL_law_604 (lv_at hl 1 rfl) ?_
    refine lv_if_ne (tgt := 621) hx hb dL_law_606 (by decide) (fun c9 => absurd rfl c9) (fun _ => ?_)
    refine lv_aload_n hx hb dL_law_609 rfl (lv_at hl 5 rfl) ?_
    refine lv_iconst (v := 0) hx hb dL_law_610 (by decide) ?_
    refine la_lld hx hb hE hPo dL_law_611 ?_
    refine lv_iload hx hb dL_law_612 (lv_at hl 0 rfl) ?_
    refine lv_i2l hx hb dL_law_614 rfl ?_
    refine la_eqL hx hb (congrArg Int32.toInt64 heq) (tgt := 621) dL_law_615 dL_law_616 (by decide) ?_
    refine lv_goto (tgt := 1642) hx hb dL_law_621 (by decide) ?_
    refine W.widen (k := cl + 740) (n := sl + 3700) (by omega) (by omega) ?_
    exact K _ _ _ ⟨_, _, _, _, _, _, _, _, _, _, _, _, _, _, _, _, _, hR, hPd, hPo, hPm, hPg⟩ hS (lv_sub hl [2, 3, 4, 5, 6, 7] rfl)
  · obtain ⟨k, rfl⟩ : ∃ k9, k = k9 + 1 := ⟨k - 1, by omega⟩
    have hB : va_P E.1 vwCl ((dC E ad S zs rn dy bn cn tn) ++ [oL E o0 f0]) H1 := hB
    have hPd := fr_l hB
    have hPo := fr_r hB
    clear hPw hDw hFc
    generalize H1 = H at hPd hPo hPm hPg hS ⊢
    refine lv_istore (lv' := [(6, .int (nI (k + 1))), (0, .ref b), (1, .ref (ad 0)), (2, .ref (mm 0)), (3, .ref o0), (4, .ref d0), (5, .int (nI i))]) hx hb dL_law_567 hl (by decide) rfl (fun ls hl => ?_)
    refine lv_aload_n hx hb dL_law_569 rfl (lv_at hl 3 rfl) ?_
    refine lv_aload_n hx hb dL_law_570 rfl (lv_at hl 1 rfl) ?_
    refine lv_iload hx hb dL_law_571 (lv_at hl 6 rfl) ?_
    refine lv_iconst (v := 1) hx hb dL_law_573 (by decide) ?_
    refine mz_addN hx hb i 1 dL_law_574 ?_
    refine la_sld hx hb hX hbl hbA hS (i + 1) (by omega) hL dL_law_575 ?_
    refine lv_aload_n hx hb dL_law_576 rfl (lv_at hl 1 rfl) ?_
    refine lv_iload hx hb dL_law_577 (lv_at hl 6 rfl) ?_
    refine lv_iconst (v := 2) hx hb dL_law_579 (by decide) ?_
    refine mz_addN hx hb i 2 dL_law_580 ?_
    refine la_sld hx hb hX hbl hbA hS (i + 2) (by omega) hL dL_law_581 ?_
    refine lv_aload_n hx hb dL_law_582 rfl (lv_at hl 1 rfl) ?_
    refine lv_iload hx hb dL_law_583 (lv_at hl 6 rfl) ?_
    refine lv_iconst (v := 3) hx hb dL_law_585 (by decide) ?_
    refine mz_addN hx hb i 3 dL_law_586 ?_
    refine la_sld hx hb hX hbl hbA hS (i + 3) (by omega) hL dL_law_587 ?_
    have hDc : va_D (fun q : Nat => s.heap.size ≤ q) (mC E mm th dy rn cn tn NU WE AT zs BU AV LS LT) := d3 _ _ _ _ _ _ _ _ _ _ _ _ _
    have hFc := fr_free hDc hS hA
    refine va_calli (va_runV (As := [.int (xs (i + 1)), .int (xs (i + 2)), .int (xs (i + 3))]) (rest := []) ⟨hx, hb, hml, hown, hts⟩ (kX5_problem l E (mm 0) (mm 1) (mm 2) (mm 3) (mm 4) (mm 5) (mm 6) (mm 7) (mm 8) th dy rn cn tn NU WE AT zs BU AV LS LT (xs (i + 1)) (xs (i + 2)) (xs (i + 3)) H.size (by first | omega | assumption | exact hz) (by first | omega | assumption | exact hz)) (cwV 3 hts gL_law_X5_problem rfl rfl rfl (by decide +kernel) ⟨Nat.le_of_ble_eq_true rfl, Nat.le_of_ble_eq_true rfl⟩) ⟨fb_W, va_recv hE.1 hPm (ci := 5) (q0 := 0) rfl rfl, fun U hU hW => ⟨rfl, by rw [hU], by rw [hU]; exact hPm, hDc.weaken (fun _ _ _ _ => trivial), hE.warm hW⟩⟩ rfl rfl hl.1 rfl (lv_room (Nat.le_of_ble_eq_true rfl)) dL_law_588 ⟨by show _ ≤ 601024; omega, by show _ ≤ 7293034; omega⟩) hS (fun q _ h => hFc q h) hFc (fun r588 u t H1 locs ht hvm hw hB hz1 hk1 hS => ?_)
    rw [ht] at hB
    have hPd := ap_keep (a13 _ _ _ _ _ _ _ _ _ _ _ _ _ _ _ _ _ _ _ _).comm hPd hk1
    have hPo := ap_keep (a23 _ _ _ _ _ _ _ _ _ _ _ _ _ _).comm hPo hk1
    have hPg := ap_keep (a34 _ _ _ _ _ _ _ _ _ _ _ _ _ _) hPg hk1
    obtain ⟨hk5, hw⟩ := hw
    have e5 : u = k + 1 := hk5.trans hk9.symm
    subst e5
    have hPm : va_P E.1 vwCl (mC E mm (nI (k + 1)) dy rn cn tn NU WE AT zs BU AV LS LT) H1 := hB
    clear hDc hFc
    generalize H1 = H at hPd hPo hPm hPg hS ⊢
    refine lv_istore (lv' := [(7, .int r588), (6, .int (nI (k + 1))), (0, .ref b), (1, .ref (ad 0)), (2, .ref (mm 0)), (3, .ref o0), (4, .ref d0), (5, .int (nI i))]) hx hb dL_law_591 hl (by decide) rfl (fun ls hl => ?_)
    refine lv_aload_n hx hb dL_law_593 rfl (lv_at hl 4 rfl) ?_
    have hPt : va_P E.1 vwCl [(mm 0, .inr (5, [.int (nI (k + 1)), .int (nI dy), .int (nI rn), .ref (mm 1), .ref (mm 2), .ref (mm 3), .ref (mm 4), .ref (mm 5), .int (nI cn), .ref (mm 6), .int (nI tn), .ref (mm 7), .ref (mm 8)]))] H := hPm.sub [0] rfl
    refine va_calli (va_runV (As := []) (rest := []) ⟨hx, hb, hml, hown, hts⟩ (kX5_thrown l E (mm 0) (mm 1) (mm 2) (mm 3) (mm 4) (mm 5) (mm 6) (mm 7) (mm 8) (nI (k + 1)) dy rn cn tn ) (cwV 0 hts gL_law_X5_thrown rfl rfl rfl (by decide +kernel) ⟨Nat.le_of_ble_eq_true rfl, Nat.le_of_ble_eq_true rfl⟩) ⟨fb_R, va_recv hE.1 hPm (ci := 5) (q0 := 0) rfl rfl, fun U hU hW => ⟨rfl, by rw [hU]; exact hPt, hE.warm hW⟩⟩ rfl rfl hl.1 rfl (lv_room (Nat.le_of_ble_eq_true rfl)) dL_law_594 ⟨by show _ ≤ 601024; omega, by show _ ≤ 7293034; omega⟩) hS (fun q _ h => h.elim) (fun q h => h.elim) (fun r594 u t H1 locs ht hvm hw hB hz1 hk1 hS => ?_)
    have hPd := hPd.ro hk1
    have hPo := hPo.ro hk1
    have hPm := hPm.ro hk1
    have hPg := hPg.ro hk1
    generalize H1 = H at hPd hPo hPm hPg hS ⊢
    subst hw
    refine lv_iload hx hb dL_law_597 (lv_at hl 1 rfl) ?_
    refine mz_eqN hx hb (k + 1) (k + 1) (tgt := 604) dL_law_599 (by decide) (by omega) (by omega) (fun _ => ?_) (fun c9 => absurd rfl c9)
    refine lv_iload hx hb dL_law_604 (lv_at hl 1 rfl) ?_
    refine mz_ifneN hx hb (k + 1) (tgt := 621) dL_law_606 (by decide) (by omega) (fun _ => ?_) (fun c9 => absurd c9 (by omega))
    refine lv_goto (tgt := 1642) hx hb dL_law_621 (by decide) ?_
    refine W.widen (k := cl + 740) (n := sl + 3700) (by omega) (by omega) ?_
    exact K _ _ _ ⟨_, _, _, _, _, _, _, _, _, _, _, _, _, _, _, _, _, hR, hPd, hPo, hPm, hPg⟩ hS (lv_sub hl [2, 3, 4, 5, 6, 7] rfl)
set_option maxHeartbeats 4000000 in
set_option maxRecDepth 100000 in
theorem arm_danger {p : Program} {e : Env} {s : State} {m : MethodId} {below : List Frame} {meth : Method} {c : Code} (l : Launch) (hlt : l.stackTraces = false) {b L : Nat} {xs : Nat → Int32} (hL : L ≤ 3072) (C0 : lw_At p s m meth c b L xs) {E : ev_T} {ad mm : Nat → Nat} {o0 d0 : Nat} (hE : ev_U E s) (hU9 : ex_U (fun q : Nat => s.heap.size ≤ q) s s.heap) (hLD : LD E ad mm o0 d0 (fun q : Nat => s.heap.size ≤ q)) {i cl sl : Nat} (hi : i + 6 ≤ L) (hcl : cl + 740 ≤ 601024) (hsl : sl + 3700 ≤ 7293034)
    (K : ∀ (H : Heap) (locs : List Loc) (ls : Array Slot), LX E ad mm o0 d0 H → va_S (fun q : Nat => s.heap.size ≤ q) s.heap H locs → lv_has ls 9 [(0, .ref b), (1, .ref (ad 0)), (2, .ref (mm 0)), (3, .ref o0), (4, .ref d0), (5, .int (nI i))] → W p l e room_1 s m #[Value.ref b] below meth c H locs (cl + 740) (sl + 3700) (lw_Z below #[Value.ref b] s) (F0 m 1642 ls []))
    {H : Heap} {locs : List Loc} {ls : Array Slot} (hX0 : LX E ad mm o0 d0 H) (hS : va_S (fun q : Nat => s.heap.size ≤ q) s.heap H locs) (hl : lv_has ls 9 [(0, .ref b), (1, .ref (ad 0)), (2, .ref (mm 0)), (3, .ref o0), (4, .ref d0), (5, .int (nI i))]) : W p l e room_1 s m #[Value.ref b] below meth c H locs cl sl (lw_Z below #[Value.ref b] s) (F0 m 624 ls []) := by
  obtain ⟨hx, hb, hr, hml, hown, hts0, hX, hbl, hlocks, hgv⟩ := id C0
  have hts : ∀ w ∈ wsL_law, w.before #[Value.ref b] s = true := fun w h => hts0 w (wsL_law_in w h)
  have hown : s.vm.findClass RL = some m.cls := hown
  obtain ⟨S, zs, rn, dy, bn, cn, tn, th, NU, WE, AT, BU, AV, LS, LT, f0, g0, hR, hPd, hPo, hPm, hPg⟩ := hX0
  obtain ⟨d1, d2, d3, d4, a12, a13, a14, a23, a24, a34⟩ := hLD
  have hA : ∀ q : Nat, s.heap.size ≤ q → (fun q : Nat => s.heap.size ≤ q) q := fun _ h => h
  have hbA : ¬ (fun q : Nat => s.heap.size ≤ q) b := Nat.not_le.mpr hbl
  obtain ⟨h6, h60, h200, h20⟩ := hR.1
  have hz := hR.hz
  refine lv_aload_n hx hb dL_law_624 rfl (lv_at hl 1 rfl) ?_
  refine lv_aload_n hx hb dL_law_625 rfl (lv_at hl 0 rfl) ?_
  refine lv_iload hx hb dL_law_626 (lv_at hl 5 rfl) ?_
  refine lv_iconst (v := 1) hx hb dL_law_628 (by decide) ?_
  refine mz_addN hx hb i 1 dL_law_629 ?_
  refine la_sld hx hb hX hbl hbA hS (i + 1) (by omega) hL dL_law_630 ?_
  refine lv_aload_n hx hb dL_law_631 rfl (lv_at hl 0 rfl) ?_
  refine lv_iload hx hb dL_law_632 (lv_at hl 5 rfl) ?_
  refine lv_iconst (v := 2) hx hb dL_law_634 (by decide) ?_
  refine mz_addN hx hb i 2 dL_law_635 ?_
  refine la_sld hx hb hX hbl hbA hS (i + 2) (by omega) hL dL_law_636 ?_
  refine lv_aload_n hx hb dL_law_637 rfl (lv_at hl 0 rfl) ?_
  refine lv_iload hx hb dL_law_638 (lv_at hl 5 rfl) ?_
  refine lv_iconst (v := 3) hx hb dL_law_640 (by decide) ?_
  refine mz_addN hx hb i 3 dL_law_641 ?_
  refine la_sld hx hb hX hbl hbA hS (i + 3) (by omega) hL dL_law_642 ?_
  refine lv_if_eq (tgt := 650) hx hb dL_law_643 (by decide) (fun cc0 => ?_) (fun cc0 => ?_)
  · refine lv_iconst (v := 0) hx hb dL_law_650 (by decide) ?_
    refine lv_aload_n hx hb dL_law_651 rfl (lv_at hl 3 rfl) ?_
    have hPw : va_P E.1 vwCl ((dC E ad S zs rn dy bn cn tn) ++ [oL E o0 f0]) H := hPd.app hPo
    have hDw : va_D (fun q : Nat => s.heap.size ≤ q) ((dC E ad S zs rn dy bn cn tn) ++ [oL E o0 f0]) := (d1 _ _ _ _ _ _ _).app (d2 _) (a12 _ _ _ _ _ _ _ _)
    have hFc := fr_free hDw hS hA
    refine va_calli (vx_runSW (As := [.ref (ad 0), .int (xs (i + 1)), .int (xs (i + 2)), .int 0, .ref o0]) (rest := []) ⟨hx, hb, hml, hown, hts⟩ (kL_danger l hlt E ad S zs rn dy bn cn tn (xs (i + 1)) (xs (i + 2)) 0 o0 f0 H.size (by first | omega | assumption | exact h60 | exact h6 | exact h20 | exact h200) (by first | omega | assumption | exact h60 | exact h6 | exact h20 | exact h200)) (vx_cwSW 5 hts gL_law_L_danger rfl rfl rfl (by decide +kernel) ⟨Nat.le_of_ble_eq_true rfl, Nat.le_of_ble_eq_true rfl⟩) ⟨fb_Y, fun U hU hW => ⟨rfl, by rw [hU], by rw [hU]; exact hPw, hDw.weaken (fun _ _ _ _ => trivial), hE.warm hW, hU9.to hS hFc hU hW⟩⟩ rfl rfl hl.1 rfl (lv_room (Nat.le_of_ble_eq_true rfl)) dL_law_652 ⟨by show _ ≤ 601024; omega, by show _ ≤ 7293034; omega⟩) hS (fun q _ h => hFc q h) hFc (fun r9 k t H1 locs ht hvm hw hB hz1 hk1 hS => ?_)
    obtain ⟨hr9, hk9⟩ := hw
    subst hr9
    rw [ht] at hB
    have hPm := ap_keep (ap.both (a13 _ _ _ _ _ _ _ _ _ _ _ _ _ _ _ _ _ _ _ _) (a23 _ _ _ _ _ _ _ _ _ _ _ _ _ _)) hPm hk1
    have hPg := ap_keep (ap.both (a14 _ _ _ _ _ _ _ _) (a24 _ _)) hPg hk1
    have hle9 := tDan_le (xs (i + 1)) (xs (i + 2)) rn
    rcases Nat.eq_zero_or_pos k with hk0 | hk0
    · subst hk0
      have hB : va_P E.1 vwCl ((dC E ad S zs rn dy bn cn tn) ++ [oL E o0 (vp_updL f0 0 (Int32.toInt64 (if 0 = 0 then dngA (rw5 (S (3 + 2 * (Int32.toNatClampNeg (xs (i + 1))))) (Int32.toNatClampNeg (xs (i + 2)))) else lvD (dngA (rw5 (S (3 + 2 * (Int32.toNatClampNeg (xs (i + 1))))) (Int32.toNatClampNeg (xs (i + 2))))))))]) H1 := hB
      have hPd := fr_l hB
      have hPo := fr_r hB
      clear hPw hDw hFc
      generalize H1 = H at hPd hPo hPm hPg hS ⊢
      refine lv_istore (lv' := [(6, .int 0), (0, .ref b), (1, .ref (ad 0)), (2, .ref (mm 0)), (3, .ref o0), (4, .ref d0), (5, .int (nI i))]) hx hb dL_law_655 hl (by decide) rfl (fun ls hl => ?_)
      refine lv_aload_n hx hb dL_law_657 rfl (lv_at hl 3 rfl) ?_
      refine lv_aload_n hx hb dL_law_658 rfl (lv_at hl 1 rfl) ?_
      refine lv_iload hx hb dL_law_659 (lv_at hl 6 rfl) ?_
      refine lv_iconst (v := 1) hx hb dL_law_661 (by decide) ?_
      refine mz_addN hx hb i 1 dL_law_662 ?_
      refine la_sld hx hb hX hbl hbA hS (i + 1) (by omega) hL dL_law_663 ?_
      refine lv_aload_n hx hb dL_law_664 rfl (lv_at hl 1 rfl) ?_
      refine lv_iload hx hb dL_law_665 (lv_at hl 6 rfl) ?_
      refine lv_iconst (v := 2) hx hb dL_law_667 (by decide) ?_
      refine mz_addN hx hb i 2 dL_law_668 ?_
      refine la_sld hx hb hX hbl hbA hS (i + 2) (by omega) hL dL_law_669 ?_
      refine lv_aload_n hx hb dL_law_670 rfl (lv_at hl 1 rfl) ?_
      refine lv_iload hx hb dL_law_671 (lv_at hl 6 rfl) ?_
      refine lv_iconst (v := 3) hx hb dL_law_673 (by decide) ?_
      refine mz_addN hx hb i 3 dL_law_674 ?_
      refine la_sld hx hb hX hbl hbA hS (i + 3) (by omega) hL dL_law_675 ?_
      refine lv_if_eq (tgt := 683) hx hb dL_law_676 (by decide) (fun _ => ?_) (fun c9 => absurd cc0 c9)
      refine lv_iconst (v := 0) hx hb dL_law_683 (by decide) ?_
      have hDc : va_D (fun q : Nat => s.heap.size ≤ q) (mC E mm th dy rn cn tn NU WE AT zs BU AV LS LT) := d3 _ _ _ _ _ _ _ _ _ _ _ _ _
      have hFc := fr_free hDc hS hA
      refine va_calli (va_runV (As := [.int (xs (i + 1)), .int (xs (i + 2)), .int 0]) (rest := []) ⟨hx, hb, hml, hown, hts⟩ (kX5_danger l E (mm 0) (mm 1) (mm 2) (mm 3) (mm 4) (mm 5) (mm 6) (mm 7) (mm 8) th dy rn cn tn NU WE AT zs BU AV LS LT (xs (i + 1)) (xs (i + 2)) 0 H.size (by first | omega | assumption | exact hz) (by first | omega | assumption | exact hz)) (cwV 3 hts gL_law_X5_danger rfl rfl rfl (by decide +kernel) ⟨Nat.le_of_ble_eq_true rfl, Nat.le_of_ble_eq_true rfl⟩) ⟨fb_W, va_recv hE.1 hPm (ci := 5) (q0 := 0) rfl rfl, fun U hU hW => ⟨rfl, by rw [hU], by rw [hU]; exact hPm, hDc.weaken (fun _ _ _ _ => trivial), hE.warm hW⟩⟩ rfl rfl hl.1 rfl (lv_room (Nat.le_of_ble_eq_true rfl)) dL_law_684 ⟨by show _ ≤ 601024; omega, by show _ ≤ 7293034; omega⟩) hS (fun q _ h => hFc q h) hFc (fun r684 u t H1 locs ht hvm hw hB hz1 hk1 hS => ?_)
      rw [ht] at hB
      have hPd := ap_keep (a13 _ _ _ _ _ _ _ _ _ _ _ _ _ _ _ _ _ _ _ _).comm hPd hk1
      have hPo := ap_keep (a23 _ _ _ _ _ _ _ _ _ _ _ _ _ _).comm hPo hk1
      have hPg := ap_keep (a34 _ _ _ _ _ _ _ _ _ _ _ _ _ _) hPg hk1
      obtain ⟨hk5, hw⟩ := hw
      have e5 : u = 0 := hk5.trans hk9.symm
      subst e5
      have hw := hw rfl
      have hPm : va_P E.1 vwCl (mC E mm 0 dy rn cn tn NU WE AT zs BU AV LS LT) H1 := hB
      clear hDc hFc
      generalize H1 = H at hPd hPo hPm hPg hS ⊢
      subst hw
      have heq := op_danger hR (xs (i + 1)) (xs (i + 2)) 0 hk9
      refine lv_istore (lv' := [(7, .int (if 0 = 0 then dngM (rwM NU ((12 * (Int32.toNatClampNeg (xs (i + 1))) + (Int32.toNatClampNeg (xs (i + 2)))) * 5)) else lvD (dngM (rwM NU ((12 * (Int32.toNatClampNeg (xs (i + 1))) + (Int32.toNatClampNeg (xs (i + 2)))) * 5))))), (6, .int 0), (0, .ref b), (1, .ref (ad 0)), (2, .ref (mm 0)), (3, .ref o0), (4, .ref d0), (5, .int (nI i))]) hx hb dL_law_687 hl (by decide) rfl (fun ls hl => ?_)
      refine lv_aload_n hx hb dL_law_689 rfl (lv_at hl 4 rfl) ?_
      have hPt : va_P E.1 vwCl [(mm 0, .inr (5, [.int 0, .int (nI dy), .int (nI rn), .ref (mm 1), .ref (mm 2), .ref (mm 3), .ref (mm 4), .ref (mm 5), .int (nI cn), .ref (mm 6), .int (nI tn), .ref (mm 7), .ref (mm 8)]))] H := hPm.sub [0] rfl
      refine va_calli (va_runV (As := []) (rest := []) ⟨hx, hb, hml, hown, hts⟩ (kX5_thrown l E (mm 0) (mm 1) (mm 2) (mm 3) (mm 4) (mm 5) (mm 6) (mm 7) (mm 8) 0 dy rn cn tn ) (cwV 0 hts gL_law_X5_thrown rfl rfl rfl (by decide +kernel) ⟨Nat.le_of_ble_eq_true rfl, Nat.le_of_ble_eq_true rfl⟩) ⟨fb_R, va_recv hE.1 hPm (ci := 5) (q0 := 0) rfl rfl, fun U hU hW => ⟨rfl, by rw [hU]; exact hPt, hE.warm hW⟩⟩ rfl rfl hl.1 rfl (lv_room (Nat.le_of_ble_eq_true rfl)) dL_law_690 ⟨by show _ ≤ 601024; omega, by show _ ≤ 7293034; omega⟩) hS (fun q _ h => h.elim) (fun q h => h.elim) (fun r690 u t H1 locs ht hvm hw hB hz1 hk1 hS => ?_)
      have hPd := hPd.ro hk1
      have hPo := hPo.ro hk1
      have hPm := hPm.ro hk1
      have hPg := hPg.ro hk1
      generalize H1 = H at hPd hPo hPm hPg hS ⊢
      subst hw
      refine lv_iload hx hb dL_law_693 (lv_at hl 1 rfl) ?_
      refine mz_eqN hx hb 0 0 (tgt := 700) dL_law_695 (by decide) (by omega) (by omega) (fun _ => ?_) (fun c9 => absurd rfl c9)
      refine lv_iload hx hb dL_law_700 (lv_at hl 1 rfl) ?_
      refine lv_if_ne (tgt := 717) hx hb dL_law_702 (by decide) (fun c9 => absurd rfl c9) (fun _ => ?_)
      refine lv_aload_n hx hb dL_law_705 rfl (lv_at hl 5 rfl) ?_
      refine lv_iconst (v := 0) hx hb dL_law_706 (by decide) ?_
      refine la_lld hx hb hE hPo dL_law_707 ?_
      refine lv_iload hx hb dL_law_708 (lv_at hl 0 rfl) ?_
      refine lv_i2l hx hb dL_law_710 rfl ?_
      refine la_eqL hx hb (congrArg Int32.toInt64 heq) (tgt := 717) dL_law_711 dL_law_712 (by decide) ?_
      refine lv_goto (tgt := 1642) hx hb dL_law_717 (by decide) ?_
      refine W.widen (k := cl + 740) (n := sl + 3700) (by omega) (by omega) ?_
      exact K _ _ _ ⟨_, _, _, _, _, _, _, _, _, _, _, _, _, _, _, _, _, hR, hPd, hPo, hPm, hPg⟩ hS (lv_sub hl [2, 3, 4, 5, 6, 7] rfl)
    · obtain ⟨k, rfl⟩ : ∃ k9, k = k9 + 1 := ⟨k - 1, by omega⟩
      have hB : va_P E.1 vwCl ((dC E ad S zs rn dy bn cn tn) ++ [oL E o0 f0]) H1 := hB
      have hPd := fr_l hB
      have hPo := fr_r hB
      clear hPw hDw hFc
      generalize H1 = H at hPd hPo hPm hPg hS ⊢
      refine lv_istore (lv' := [(6, .int (nI (k + 1))), (0, .ref b), (1, .ref (ad 0)), (2, .ref (mm 0)), (3, .ref o0), (4, .ref d0), (5, .int (nI i))]) hx hb dL_law_655 hl (by decide) rfl (fun ls hl => ?_)
      refine lv_aload_n hx hb dL_law_657 rfl (lv_at hl 3 rfl) ?_
      refine lv_aload_n hx hb dL_law_658 rfl (lv_at hl 1 rfl) ?_
      refine lv_iload hx hb dL_law_659 (lv_at hl 6 rfl) ?_
      refine lv_iconst (v := 1) hx hb dL_law_661 (by decide) ?_
      refine mz_addN hx hb i 1 dL_law_662 ?_
      refine la_sld hx hb hX hbl hbA hS (i + 1) (by omega) hL dL_law_663 ?_
      refine lv_aload_n hx hb dL_law_664 rfl (lv_at hl 1 rfl) ?_
      refine lv_iload hx hb dL_law_665 (lv_at hl 6 rfl) ?_
      refine lv_iconst (v := 2) hx hb dL_law_667 (by decide) ?_
      refine mz_addN hx hb i 2 dL_law_668 ?_
      refine la_sld hx hb hX hbl hbA hS (i + 2) (by omega) hL dL_law_669 ?_
      refine lv_aload_n hx hb dL_law_670 rfl (lv_at hl 1 rfl) ?_
      refine lv_iload hx hb dL_law_671 (lv_at hl 6 rfl) ?_
      refine lv_iconst (v := 3) hx hb dL_law_673 (by decide) ?_
      refine mz_addN hx hb i 3 dL_law_674 ?_
      refine la_sld hx hb hX hbl hbA hS (i + 3) (by omega) hL dL_law_675 ?_
      refine lv_if_eq (tgt := 683) hx hb dL_law_676 (by decide) (fun _ => ?_) (fun c9 => absurd cc0 c9)
      refine lv_iconst (v := 0) hx hb dL_law_683 (by decide) ?_
      have hDc : va_D (fun q : Nat => s.heap.size ≤ q) (mC E mm th dy rn cn tn NU WE AT zs BU AV LS LT) := d3 _ _ _ _ _ _ _ _ _ _ _ _ _
      have hFc := fr_free hDc hS hA
      refine va_calli (va_runV (As := [.int (xs (i + 1)), .int (xs (i + 2)), .int 0]) (rest := []) ⟨hx, hb, hml, hown, hts⟩ (kX5_danger l E (mm 0) (mm 1) (mm 2) (mm 3) (mm 4) (mm 5) (mm 6) (mm 7) (mm 8) th dy rn cn tn NU WE AT zs BU AV LS LT (xs (i + 1)) (xs (i + 2)) 0 H.size (by first | omega | assumption | exact hz) (by first | omega | assumption | exact hz)) (cwV 3 hts gL_law_X5_danger rfl rfl rfl (by decide +kernel) ⟨Nat.le_of_ble_eq_true rfl, Nat.le_of_ble_eq_true rfl⟩) ⟨fb_W, va_recv hE.1 hPm (ci := 5) (q0 := 0) rfl rfl, fun U hU hW => ⟨rfl, by rw [hU], by rw [hU]; exact hPm, hDc.weaken (fun _ _ _ _ => trivial), hE.warm hW⟩⟩ rfl rfl hl.1 rfl (lv_room (Nat.le_of_ble_eq_true rfl)) dL_law_684 ⟨by show _ ≤ 601024; omega, by show _ ≤ 7293034; omega⟩) hS (fun q _ h => hFc q h) hFc (fun r684 u t H1 locs ht hvm hw hB hz1 hk1 hS => ?_)
      rw [ht] at hB
      have hPd := ap_keep (a13 _ _ _ _ _ _ _ _ _ _ _ _ _ _ _ _ _ _ _ _).comm hPd hk1
      have hPo := ap_keep (a23 _ _ _ _ _ _ _ _ _ _ _ _ _ _).comm hPo hk1
      have hPg := ap_keep (a34 _ _ _ _ _ _ _ _ _ _ _ _ _ _) hPg hk1
      obtain ⟨hk5, hw⟩ := hw
      have e5 : u = k + 1 := hk5.trans hk9.symm
      subst e5
      have hPm : va_P E.1 vwCl (mC E mm (nI (k + 1)) dy rn cn tn NU WE AT zs BU AV LS LT) H1 := hB
      clear hDc hFc
      generalize H1 = H at hPd hPo hPm hPg hS ⊢
      refine lv_istore (lv' := [(7, .int r684), (6, .int (nI (k + 1))), (0, .ref b), (1, .ref (ad 0)), (2, .ref (mm 0)), (3, .ref o0), (4, .ref d0), (5, .int (nI i))]) hx hb dL_law_687 hl (by decide) rfl (fun ls hl => ?_)
      refine lv_aload_n hx hb dL_law_689 rfl (lv_at hl 4 rfl) ?_
      have hPt : va_P E.1 vwCl [(mm 0, .inr (5, [.int (nI (k + 1)), .int (nI dy), .int (nI rn), .ref (mm 1), .ref (mm 2), .ref (mm 3), .ref (mm 4), .ref (mm 5), .int (nI cn), .ref (mm 6), .int (nI tn), .ref (mm 7), .ref (mm 8)]))] H := hPm.sub [0] rfl
      refine va_calli (va_runV (As := []) (rest := []) ⟨hx, hb, hml, hown, hts⟩ (kX5_thrown l E (mm 0) (mm 1) (mm 2) (mm 3) (mm 4) (mm 5) (mm 6) (mm 7) (mm 8) (nI (k + 1)) dy rn cn tn ) (cwV 0 hts gL_law_X5_thrown rfl rfl rfl (by decide +kernel) ⟨Nat.le_of_ble_eq_true rfl, Nat.le_of_ble_eq_true rfl⟩) ⟨fb_R, va_recv hE.1 hPm (ci := 5) (q0 := 0) rfl rfl, fun U hU hW => ⟨rfl, by rw [hU]; exact hPt, hE.warm hW⟩⟩ rfl rfl hl.1 rfl (lv_room (Nat.le_of_ble_eq_true rfl)) dL_law_690 ⟨by show _ ≤ 601024; omega, by show _ ≤ 7293034; omega⟩) hS (fun q _ h => h.elim) (fun q h => h.elim) (fun r690 u t H1 locs ht hvm hw hB hz1 hk1 hS => ?_)
      have hPd := hPd.ro hk1
      have hPo := hPo.ro hk1
      have hPm := hPm.ro hk1
      have hPg := hPg.ro hk1
      generalize H1 = H at hPd hPo hPm hPg hS ⊢
      subst hw
      refine lv_iload hx hb dL_law_693 (lv_at hl 1 rfl) ?_
      refine mz_eqN hx hb (k + 1) (k + 1) (tgt := 700) dL_law_695 (by decide) (by omega) (by omega) (fun _ => ?_) (fun c9 => absurd rfl c9)
      refine lv_iload hx hb dL_law_700 (lv_at hl 1 rfl) ?_
      refine mz_ifneN hx hb (k + 1) (tgt := 717) dL_law_702 (by decide) (by omega) (fun _ => ?_) (fun c9 => absurd c9 (by omega))
      refine lv_goto (tgt := 1642) hx hb dL_law_717 (by decide) ?_
      refine W.widen (k := cl + 740) (n := sl + 3700) (by omega) (by omega) ?_
      exact K _ _ _ ⟨_, _, _, _, _, _, _, _, _, _, _, _, _, _, _, _, _, hR, hPd, hPo, hPm, hPg⟩ hS (lv_sub hl [2, 3, 4, 5, 6, 7] rfl)
  · refine lv_iconst (v := 1) hx hb dL_law_646 (by decide) ?_
    refine lv_goto (tgt := 651) hx hb dL_law_647 (by decide) ?_
    refine lv_aload_n hx hb dL_law_651 rfl (lv_at hl 3 rfl) ?_
    have hPw : va_P E.1 vwCl ((dC E ad S zs rn dy bn cn tn) ++ [oL E o0 f0]) H := hPd.app hPo
    have hDw : va_D (fun q : Nat => s.heap.size ≤ q) ((dC E ad S zs rn dy bn cn tn) ++ [oL E o0 f0]) := (d1 _ _ _ _ _ _ _).app (d2 _) (a12 _ _ _ _ _ _ _ _)
    have hFc := fr_free hDw hS hA
    refine va_calli (vx_runSW (As := [.ref (ad 0), .int (xs (i + 1)), .int (xs (i + 2)), .int 1, .ref o0]) (rest := []) ⟨hx, hb, hml, hown, hts⟩ (kL_danger l hlt E ad S zs rn dy bn cn tn (xs (i + 1)) (xs (i + 2)) 1 o0 f0 H.size (by first | omega | assumption | exact h60 | exact h6 | exact h20 | exact h200) (by first | omega | assumption | exact h60 | exact h6 | exact h20 | exact h200)) (vx_cwSW 5 hts gL_law_L_danger rfl rfl rfl (by decide +kernel) ⟨Nat.le_of_ble_eq_true rfl, Nat.le_of_ble_eq_true rfl⟩) ⟨fb_Y, fun U hU hW => ⟨rfl, by rw [hU], by rw [hU]; exact hPw, hDw.weaken (fun _ _ _ _ => trivial), hE.warm hW, hU9.to hS hFc hU hW⟩⟩ rfl rfl hl.1 rfl (lv_room (Nat.le_of_ble_eq_true rfl)) dL_law_652 ⟨by show _ ≤ 601024; omega, by show _ ≤ 7293034; omega⟩) hS (fun q _ h => hFc q h) hFc (fun r9 k t H1 locs ht hvm hw hB hz1 hk1 hS => ?_)
    obtain ⟨hr9, hk9⟩ := hw
    subst hr9
    rw [ht] at hB
    have hPm := ap_keep (ap.both (a13 _ _ _ _ _ _ _ _ _ _ _ _ _ _ _ _ _ _ _ _) (a23 _ _ _ _ _ _ _ _ _ _ _ _ _ _)) hPm hk1
    have hPg := ap_keep (ap.both (a14 _ _ _ _ _ _ _ _) (a24 _ _)) hPg hk1
    have hle9 := tDan_le (xs (i + 1)) (xs (i + 2)) rn
    rcases Nat.eq_zero_or_pos k with hk0 | hk0
    · subst hk0
      have hB : va_P E.1 vwCl ((dC E ad S zs rn dy bn cn tn) ++ [oL E o0 (vp_updL f0 0 (Int32.toInt64 (if 1 = 0 then dngA (rw5 (S (3 + 2 * (Int32.toNatClampNeg (xs (i + 1))))) (Int32.toNatClampNeg (xs (i + 2)))) else lvD (dngA (rw5 (S (3 + 2 * (Int32.toNatClampNeg (xs (i + 1))))) (Int32.toNatClampNeg (xs (i + 2))))))))]) H1 := hB
      have hPd := fr_l hB
      have hPo := fr_r hB
      clear hPw hDw hFc
      generalize H1 = H at hPd hPo hPm hPg hS ⊢
      refine lv_istore (lv' := [(6, .int 0), (0, .ref b), (1, .ref (ad 0)), (2, .ref (mm 0)), (3, .ref o0), (4, .ref d0), (5, .int (nI i))]) hx hb dL_law_655 hl (by decide) rfl (fun ls hl => ?_)
      refine lv_aload_n hx hb dL_law_657 rfl (lv_at hl 3 rfl) ?_
      refine lv_aload_n hx hb dL_law_658 rfl (lv_at hl 1 rfl) ?_
      refine lv_iload hx hb dL_law_659 (lv_at hl 6 rfl) ?_
      refine lv_iconst (v := 1) hx hb dL_law_661 (by decide) ?_
      refine mz_addN hx hb i 1 dL_law_662 ?_
      refine la_sld hx hb hX hbl hbA hS (i + 1) (by omega) hL dL_law_663 ?_
      refine lv_aload_n hx hb dL_law_664 rfl (lv_at hl 1 rfl) ?_
      refine lv_iload hx hb dL_law_665 (lv_at hl 6 rfl) ?_
      refine lv_iconst (v := 2) hx hb dL_law_667 (by decide) ?_
      refine mz_addN hx hb i 2 dL_law_668 ?_
      refine la_sld hx hb hX hbl hbA hS (i + 2) (by omega) hL dL_law_669 ?_
      refine lv_aload_n hx hb dL_law_670 rfl (lv_at hl 1 rfl) ?_
      refine lv_iload hx hb dL_law_671 (lv_at hl 6 rfl) ?_
      refine lv_iconst (v := 3) hx hb dL_law_673 (by decide) ?_
      refine mz_addN hx hb i 3 dL_law_674 ?_
      refine la_sld hx hb hX hbl hbA hS (i + 3) (by omega) hL dL_law_675 ?_
      refine lv_if_eq (tgt := 683) hx hb dL_law_676 (by decide) (fun c9 => absurd c9 cc0) (fun _ => ?_)
      refine lv_iconst (v := 1) hx hb dL_law_679 (by decide) ?_
      refine lv_goto (tgt := 684) hx hb dL_law_680 (by decide) ?_
      have hDc : va_D (fun q : Nat => s.heap.size ≤ q) (mC E mm th dy rn cn tn NU WE AT zs BU AV LS LT) := d3 _ _ _ _ _ _ _ _ _ _ _ _ _
      have hFc := fr_free hDc hS hA
      refine va_calli (va_runV (As := [.int (xs (i + 1)), .int (xs (i + 2)), .int 1]) (rest := []) ⟨hx, hb, hml, hown, hts⟩ (kX5_danger l E (mm 0) (mm 1) (mm 2) (mm 3) (mm 4) (mm 5) (mm 6) (mm 7) (mm 8) th dy rn cn tn NU WE AT zs BU AV LS LT (xs (i + 1)) (xs (i + 2)) 1 H.size (by first | omega | assumption | exact hz) (by first | omega | assumption | exact hz)) (cwV 3 hts gL_law_X5_danger rfl rfl rfl (by decide +kernel) ⟨Nat.le_of_ble_eq_true rfl, Nat.le_of_ble_eq_true rfl⟩) ⟨fb_W, va_recv hE.1 hPm (ci := 5) (q0 := 0) rfl rfl, fun U hU hW => ⟨rfl, by rw [hU], by rw [hU]; exact hPm, hDc.weaken (fun _ _ _ _ => trivial), hE.warm hW⟩⟩ rfl rfl hl.1 rfl (lv_room (Nat.le_of_ble_eq_true rfl)) dL_law_684 ⟨by show _ ≤ 601024; omega, by show _ ≤ 7293034; omega⟩) hS (fun q _ h => hFc q h) hFc (fun r684 u t H1 locs ht hvm hw hB hz1 hk1 hS => ?_)
      rw [ht] at hB
      have hPd := ap_keep (a13 _ _ _ _ _ _ _ _ _ _ _ _ _ _ _ _ _ _ _ _).comm hPd hk1
      have hPo := ap_keep (a23 _ _ _ _ _ _ _ _ _ _ _ _ _ _).comm hPo hk1
      have hPg := ap_keep (a34 _ _ _ _ _ _ _ _ _ _ _ _ _ _) hPg hk1
      obtain ⟨hk5, hw⟩ := hw
      have e5 : u = 0 := hk5.trans hk9.symm
      subst e5
      have hw := hw rfl
      have hPm : va_P E.1 vwCl (mC E mm 0 dy rn cn tn NU WE AT zs BU AV LS LT) H1 := hB
      clear hDc hFc
      generalize H1 = H at hPd hPo hPm hPg hS ⊢
      subst hw
      have heq := op_danger hR (xs (i + 1)) (xs (i + 2)) 1 hk9
      refine lv_istore (lv' := [(7, .int (if 1 = 0 then dngM (rwM NU ((12 * (Int32.toNatClampNeg (xs (i + 1))) + (Int32.toNatClampNeg (xs (i + 2)))) * 5)) else lvD (dngM (rwM NU ((12 * (Int32.toNatClampNeg (xs (i + 1))) + (Int32.toNatClampNeg (xs (i + 2)))) * 5))))), (6, .int 0), (0, .ref b), (1, .ref (ad 0)), (2, .ref (mm 0)), (3, .ref o0), (4, .ref d0), (5, .int (nI i))]) hx hb dL_law_687 hl (by decide) rfl (fun ls hl => ?_)
      refine lv_aload_n hx hb dL_law_689 rfl (lv_at hl 4 rfl) ?_
      have hPt : va_P E.1 vwCl [(mm 0, .inr (5, [.int 0, .int (nI dy), .int (nI rn), .ref (mm 1), .ref (mm 2), .ref (mm 3), .ref (mm 4), .ref (mm 5), .int (nI cn), .ref (mm 6), .int (nI tn), .ref (mm 7), .ref (mm 8)]))] H := hPm.sub [0] rfl
      refine va_calli (va_runV (As := []) (rest := []) ⟨hx, hb, hml, hown, hts⟩ (kX5_thrown l E (mm 0) (mm 1) (mm 2) (mm 3) (mm 4) (mm 5) (mm 6) (mm 7) (mm 8) 0 dy rn cn tn ) (cwV 0 hts gL_law_X5_thrown rfl rfl rfl (by decide +kernel) ⟨Nat.le_of_ble_eq_true rfl, Nat.le_of_ble_eq_true rfl⟩) ⟨fb_R, va_recv hE.1 hPm (ci := 5) (q0 := 0) rfl rfl, fun U hU hW => ⟨rfl, by rw [hU]; exact hPt, hE.warm hW⟩⟩ rfl rfl hl.1 rfl (lv_room (Nat.le_of_ble_eq_true rfl)) dL_law_690 ⟨by show _ ≤ 601024; omega, by show _ ≤ 7293034; omega⟩) hS (fun q _ h => h.elim) (fun q h => h.elim) (fun r690 u t H1 locs ht hvm hw hB hz1 hk1 hS => ?_)
      have hPd := hPd.ro hk1
      have hPo := hPo.ro hk1
      have hPm := hPm.ro hk1
      have hPg := hPg.ro hk1
      generalize H1 = H at hPd hPo hPm hPg hS ⊢
      subst hw
      refine lv_iload hx hb dL_law_693 (lv_at hl 1 rfl) ?_
      refine mz_eqN hx hb 0 0 (tgt := 700) dL_law_695 (by decide) (by omega) (by omega) (fun _ => ?_) (fun c9 => absurd rfl c9)
      refine lv_iload hx hb dL_law_700 (lv_at hl 1 rfl) ?_
      refine lv_if_ne (tgt := 717) hx hb dL_law_702 (by decide) (fun c9 => absurd rfl c9) (fun _ => ?_)
      refine lv_aload_n hx hb dL_law_705 rfl (lv_at hl 5 rfl) ?_
      refine lv_iconst (v := 0) hx hb dL_law_706 (by decide) ?_
      refine la_lld hx hb hE hPo dL_law_707 ?_
      refine lv_iload hx hb dL_law_708 (lv_at hl 0 rfl) ?_
      refine lv_i2l hx hb dL_law_710 rfl ?_
      refine la_eqL hx hb (congrArg Int32.toInt64 heq) (tgt := 717) dL_law_711 dL_law_712 (by decide) ?_
      refine lv_goto (tgt := 1642) hx hb dL_law_717 (by decide) ?_
      refine W.widen (k := cl + 740) (n := sl + 3700) (by omega) (by omega) ?_
      exact K _ _ _ ⟨_, _, _, _, _, _, _, _, _, _, _, _, _, _, _, _, _, hR, hPd, hPo, hPm, hPg⟩ hS (lv_sub hl [2, 3, 4, 5, 6, 7] rfl)
    · obtain ⟨k, rfl⟩ : ∃ k9, k = k9 + 1 := ⟨k - 1, by omega⟩
      have hB : va_P E.1 vwCl ((dC E ad S zs rn dy bn cn tn) ++ [oL E o0 f0]) H1 := hB
      have hPd := fr_l hB
      have hPo := fr_r hB
      clear hPw hDw hFc
      generalize H1 = H at hPd hPo hPm hPg hS ⊢
      refine lv_istore (lv' := [(6, .int (nI (k + 1))), (0, .ref b), (1, .ref (ad 0)), (2, .ref (mm 0)), (3, .ref o0), (4, .ref d0), (5, .int (nI i))]) hx hb dL_law_655 hl (by decide) rfl (fun ls hl => ?_)
      refine lv_aload_n hx hb dL_law_657 rfl (lv_at hl 3 rfl) ?_
      refine lv_aload_n hx hb dL_law_658 rfl (lv_at hl 1 rfl) ?_
      refine lv_iload hx hb dL_law_659 (lv_at hl 6 rfl) ?_
      refine lv_iconst (v := 1) hx hb dL_law_661 (by decide) ?_
      refine mz_addN hx hb i 1 dL_law_662 ?_
      refine la_sld hx hb hX hbl hbA hS (i + 1) (by omega) hL dL_law_663 ?_
      refine lv_aload_n hx hb dL_law_664 rfl (lv_at hl 1 rfl) ?_
      refine lv_iload hx hb dL_law_665 (lv_at hl 6 rfl) ?_
      refine lv_iconst (v := 2) hx hb dL_law_667 (by decide) ?_
      refine mz_addN hx hb i 2 dL_law_668 ?_
      refine la_sld hx hb hX hbl hbA hS (i + 2) (by omega) hL dL_law_669 ?_
      refine lv_aload_n hx hb dL_law_670 rfl (lv_at hl 1 rfl) ?_
      refine lv_iload hx hb dL_law_671 (lv_at hl 6 rfl) ?_
      refine lv_iconst (v := 3) hx hb dL_law_673 (by decide) ?_
      refine mz_addN hx hb i 3 dL_law_674 ?_
      refine la_sld hx hb hX hbl hbA hS (i + 3) (by omega) hL dL_law_675 ?_
      refine lv_if_eq (tgt := 683) hx hb dL_law_676 (by decide) (fun c9 => absurd c9 cc0) (fun _ => ?_)
      refine lv_iconst (v := 1) hx hb dL_law_679 (by decide) ?_
      refine lv_goto (tgt := 684) hx hb dL_law_680 (by decide) ?_
      have hDc : va_D (fun q : Nat => s.heap.size ≤ q) (mC E mm th dy rn cn tn NU WE AT zs BU AV LS LT) := d3 _ _ _ _ _ _ _ _ _ _ _ _ _
      have hFc := fr_free hDc hS hA
      refine va_calli (va_runV (As := [.int (xs (i + 1)), .int (xs (i + 2)), .int 1]) (rest := []) ⟨hx, hb, hml, hown, hts⟩ (kX5_danger l E (mm 0) (mm 1) (mm 2) (mm 3) (mm 4) (mm 5) (mm 6) (mm 7) (mm 8) th dy rn cn tn NU WE AT zs BU AV LS LT (xs (i + 1)) (xs (i + 2)) 1 H.size (by first | omega | assumption | exact hz) (by first | omega | assumption | exact hz)) (cwV 3 hts gL_law_X5_danger rfl rfl rfl (by decide +kernel) ⟨Nat.le_of_ble_eq_true rfl, Nat.le_of_ble_eq_true rfl⟩) ⟨fb_W, va_recv hE.1 hPm (ci := 5) (q0 := 0) rfl rfl, fun U hU hW => ⟨rfl, by rw [hU], by rw [hU]; exact hPm, hDc.weaken (fun _ _ _ _ => trivial), hE.warm hW⟩⟩ rfl rfl hl.1 rfl (lv_room (Nat.le_of_ble_eq_true rfl)) dL_law_684 ⟨by show _ ≤ 601024; omega, by show _ ≤ 7293034; omega⟩) hS (fun q _ h => hFc q h) hFc (fun r684 u t H1 locs ht hvm hw hB hz1 hk1 hS => ?_)
      rw [ht] at hB
      have hPd := ap_keep (a13 _ _ _ _ _ _ _ _ _ _ _ _ _ _ _ _ _ _ _ _).comm hPd hk1
      have hPo := ap_keep (a23 _ _ _ _ _ _ _ _ _ _ _ _ _ _).comm hPo hk1
      have hPg := ap_keep (a34 _ _ _ _ _ _ _ _ _ _ _ _ _ _) hPg hk1
      obtain ⟨hk5, hw⟩ := hw
      have e5 : u = k + 1 := hk5.trans hk9.symm
      subst e5
      have hPm : va_P E.1 vwCl (mC E mm (nI (k + 1)) dy rn cn tn NU WE AT zs BU AV LS LT) H1 := hB
      clear hDc hFc
      generalize H1 = H at hPd hPo hPm hPg hS ⊢
      refine lv_istore (lv' := [(7, .int r684), (6, .int (nI (k + 1))), (0, .ref b), (1, .ref (ad 0)), (2, .ref (mm 0)), (3, .ref o0), (4, .ref d0), (5, .int (nI i))]) hx hb dL_law_687 hl (by decide) rfl (fun ls hl => ?_)
      refine lv_aload_n hx hb dL_law_689 rfl (lv_at hl 4 rfl) ?_
      have hPt : va_P E.1 vwCl [(mm 0, .inr (5, [.int (nI (k + 1)), .int (nI dy), .int (nI rn), .ref (mm 1), .ref (mm 2), .ref (mm 3), .ref (mm 4), .ref (mm 5), .int (nI cn), .ref (mm 6), .int (nI tn), .ref (mm 7), .ref (mm 8)]))] H := hPm.sub [0] rfl
      refine va_calli (va_runV (As := []) (rest := []) ⟨hx, hb, hml, hown, hts⟩ (kX5_thrown l E (mm 0) (mm 1) (mm 2) (mm 3) (mm 4) (mm 5) (mm 6) (mm 7) (mm 8) (nI (k + 1)) dy rn cn tn ) (cwV 0 hts gL_law_X5_thrown rfl rfl rfl (by decide +kernel) ⟨Nat.le_of_ble_eq_true rfl, Nat.le_of_ble_eq_true rfl⟩) ⟨fb_R, va_recv hE.1 hPm (ci := 5) (q0 := 0) rfl rfl, fun U hU hW => ⟨rfl, by rw [hU]; exact hPt, hE.warm hW⟩⟩ rfl rfl hl.1 rfl (lv_room (Nat.le_of_ble_eq_true rfl)) dL_law_690 ⟨by show _ ≤ 601024; omega, by show _ ≤ 7293034; omega⟩) hS (fun q _ h => h.elim) (fun q h => h.elim) (fun r690 u t H1 locs ht hvm hw hB hz1 hk1 hS => ?_)
      have hPd := hPd.ro hk1
      have hPo := hPo.ro hk1
      have hPm := hPm.ro hk1
      have hPg := hPg.ro hk1
      generalize H1 = H at hPd hPo hPm hPg hS ⊢
      subst hw
      refine lv_iload hx hb dL_law_693 (lv_at hl 1 rfl) ?_
      refine mz_eqN hx hb (k + 1) (k + 1) (tgt := 700) dL_law_695 (by decide) (by omega) (by omega) (fun _ => ?_) (fun c9 => absurd rfl c9)
      refine lv_iload hx hb dL_law_700 (lv_at hl 1 rfl) ?_
      refine mz_ifneN hx hb (k + 1) (tgt := 717) dL_law_702 (by decide) (by omega) (fun _ => ?_) (fun c9 => absurd c9 (by omega))
      refine lv_goto (tgt := 1642) hx hb dL_law_717 (by decide) ?_
      refine W.widen (k := cl + 740) (n := sl + 3700) (by omega) (by omega) ?_
      exact K _ _ _ ⟨_, _, _, _, _, _, _, _, _, _, _, _, _, _, _, _, _, hR, hPd, hPo, hPm, hPg⟩ hS (lv_sub hl [2, 3, 4, 5, 6, 7] rfl)
set_option maxHeartbeats 4000000 in
set_option maxRecDepth 100000 in
theorem arm_level {p : Program} {e : Env} {s : State} {m : MethodId} {below : List Frame} {meth : Method} {c : Code} (l : Launch) (hlt : l.stackTraces = false) {b L : Nat} {xs : Nat → Int32} (hL : L ≤ 3072) (C0 : lw_At p s m meth c b L xs) {E : ev_T} {ad mm : Nat → Nat} {o0 d0 : Nat} (hE : ev_U E s) (hU9 : ex_U (fun q : Nat => s.heap.size ≤ q) s s.heap) (hLD : LD E ad mm o0 d0 (fun q : Nat => s.heap.size ≤ q)) {i cl sl : Nat} (hi : i + 6 ≤ L) (hcl : cl + 740 ≤ 601024) (hsl : sl + 3700 ≤ 7293034)
    (K : ∀ (H : Heap) (locs : List Loc) (ls : Array Slot), LX E ad mm o0 d0 H → va_S (fun q : Nat => s.heap.size ≤ q) s.heap H locs → lv_has ls 9 [(0, .ref b), (1, .ref (ad 0)), (2, .ref (mm 0)), (3, .ref o0), (4, .ref d0), (5, .int (nI i))] → W p l e room_1 s m #[Value.ref b] below meth c H locs (cl + 740) (sl + 3700) (lw_Z below #[Value.ref b] s) (F0 m 1642 ls []))
    {H : Heap} {locs : List Loc} {ls : Array Slot} (hX0 : LX E ad mm o0 d0 H) (hS : va_S (fun q : Nat => s.heap.size ≤ q) s.heap H locs) (hl : lv_has ls 9 [(0, .ref b), (1, .ref (ad 0)), (2, .ref (mm 0)), (3, .ref o0), (4, .ref d0), (5, .int (nI i))]) : W p l e room_1 s m #[Value.ref b] below meth c H locs cl sl (lw_Z below #[Value.ref b] s) (F0 m 720 ls []) := by
  obtain ⟨hx, hb, hr, hml, hown, hts0, hX, hbl, hlocks, hgv⟩ := id C0
  have hts : ∀ w ∈ wsL_law, w.before #[Value.ref b] s = true := fun w h => hts0 w (wsL_law_in w h)
  have hown : s.vm.findClass RL = some m.cls := hown
  obtain ⟨S, zs, rn, dy, bn, cn, tn, th, NU, WE, AT, BU, AV, LS, LT, f0, g0, hR, hPd, hPo, hPm, hPg⟩ := hX0
  obtain ⟨d1, d2, d3, d4, a12, a13, a14, a23, a24, a34⟩ := hLD
  have hA : ∀ q : Nat, s.heap.size ≤ q → (fun q : Nat => s.heap.size ≤ q) q := fun _ h => h
  have hbA : ¬ (fun q : Nat => s.heap.size ≤ q) b := Nat.not_le.mpr hbl
  obtain ⟨h6, h60, h200, h20⟩ := hR.1
  have hz := hR.hz
  refine lv_aload_n hx hb dL_law_720 rfl (lv_at hl 1 rfl) ?_
  refine lv_aload_n hx hb dL_law_721 rfl (lv_at hl 0 rfl) ?_
  refine lv_iload hx hb dL_law_722 (lv_at hl 5 rfl) ?_
  refine lv_iconst (v := 1) hx hb dL_law_724 (by decide) ?_
  refine mz_addN hx hb i 1 dL_law_725 ?_
  refine la_sld hx hb hX hbl hbA hS (i + 1) (by omega) hL dL_law_726 ?_
  refine lv_aload_n hx hb dL_law_727 rfl (lv_at hl 3 rfl) ?_
  have hPw : va_P E.1 vwCl ((dC E ad S zs rn dy bn cn tn) ++ [oL E o0 f0]) H := hPd.app hPo
  have hDw : va_D (fun q : Nat => s.heap.size ≤ q) ((dC E ad S zs rn dy bn cn tn) ++ [oL E o0 f0]) := (d1 _ _ _ _ _ _ _).app (d2 _) (a12 _ _ _ _ _ _ _ _)
  have hFc := fr_free hDw hS hA
  refine va_calli (vx_runSW (As := [.ref (ad 0), .int (xs (i + 1)), .ref o0]) (rest := []) ⟨hx, hb, hml, hown, hts⟩ (kL_level l hlt E ad S zs rn dy bn cn tn (xs (i + 1)) o0 f0 H.size (by first | omega | assumption | exact h60 | exact h6 | exact h20 | exact h200) (by first | omega | assumption | exact h60 | exact h6 | exact h20 | exact h200)) (vx_cwSW 3 hts gL_law_L_level rfl rfl rfl (by decide +kernel) ⟨Nat.le_of_ble_eq_true rfl, Nat.le_of_ble_eq_true rfl⟩) ⟨fb_Y, fun U hU hW => ⟨rfl, by rw [hU], by rw [hU]; exact hPw, hDw.weaken (fun _ _ _ _ => trivial), hE.warm hW, hU9.to hS hFc hU hW⟩⟩ rfl rfl hl.1 rfl (lv_room (Nat.le_of_ble_eq_true rfl)) dL_law_728 ⟨by show _ ≤ 601024; omega, by show _ ≤ 7293034; omega⟩) hS (fun q _ h => hFc q h) hFc (fun r9 k t H1 locs ht hvm hw hB hz1 hk1 hS => ?_)
  obtain ⟨hr9, hk9⟩ := hw
  subst hr9
  rw [ht] at hB
  have hPm := ap_keep (ap.both (a13 _ _ _ _ _ _ _ _ _ _ _ _ _ _ _ _ _ _ _ _) (a23 _ _ _ _ _ _ _ _ _ _ _ _ _ _)) hPm hk1
  have hPg := ap_keep (ap.both (a14 _ _ _ _ _ _ _ _) (a24 _ _)) hPg hk1
  have hle9 := tReg_le (xs (i + 1)) rn
  rcases Nat.eq_zero_or_pos k with hk0 | hk0
  · subst hk0
    have hB : va_P E.1 vwCl ((dC E ad S zs rn dy bn cn tn) ++ [oL E o0 (vp_updL f0 0 (Int32.toInt64 (levA (S (3 + 2 * (Int32.toNatClampNeg (xs (i + 1))))))))]) H1 := hB
    have hPd := fr_l hB
    have hPo := fr_r hB
    clear hPw hDw hFc
    generalize H1 = H at hPd hPo hPm hPg hS ⊢
    refine lv_istore (lv' := [(6, .int 0), (0, .ref b), (1, .ref (ad 0)), (2, .ref (mm 0)), (3, .ref o0), (4, .ref d0), (5, .int (nI i))]) hx hb dL_law_731 hl (by decide) rfl (fun ls hl => ?_)
    refine lv_aload_n hx hb dL_law_733 rfl (lv_at hl 3 rfl) ?_
    refine lv_aload_n hx hb dL_law_734 rfl (lv_at hl 1 rfl) ?_
    refine lv_iload hx hb dL_law_735 (lv_at hl 6 rfl) ?_
    refine lv_iconst (v := 1) hx hb dL_law_737 (by decide) ?_
    refine mz_addN hx hb i 1 dL_law_738 ?_
    refine la_sld hx hb hX hbl hbA hS (i + 1) (by omega) hL dL_law_739 ?_
    have hDc : va_D (fun q : Nat => s.heap.size ≤ q) (mC E mm th dy rn cn tn NU WE AT zs BU AV LS LT) := d3 _ _ _ _ _ _ _ _ _ _ _ _ _
    have hFc := fr_free hDc hS hA
    refine va_calli (va_runV (As := [.int (xs (i + 1))]) (rest := []) ⟨hx, hb, hml, hown, hts⟩ (kX5_level_ l E (mm 0) (mm 1) (mm 2) (mm 3) (mm 4) (mm 5) (mm 6) (mm 7) (mm 8) th dy rn cn tn NU WE AT zs BU AV LS LT (xs (i + 1)) H.size (by first | omega | assumption | exact hz) (by first | omega | assumption | exact hz)) (cwV 1 hts gL_law_X5_level_ rfl rfl rfl (by decide +kernel) ⟨Nat.le_of_ble_eq_true rfl, Nat.le_of_ble_eq_true rfl⟩) ⟨fb_W, va_recv hE.1 hPm (ci := 5) (q0 := 0) rfl rfl, fun U hU hW => ⟨rfl, by rw [hU], by rw [hU]; exact hPm, hDc.weaken (fun _ _ _ _ => trivial), hE.warm hW⟩⟩ rfl rfl hl.1 rfl (lv_room (Nat.le_of_ble_eq_true rfl)) dL_law_740 ⟨by show _ ≤ 601024; omega, by show _ ≤ 7293034; omega⟩) hS (fun q _ h => hFc q h) hFc (fun r740 u t H1 locs ht hvm hw hB hz1 hk1 hS => ?_)
    rw [ht] at hB
    have hPd := ap_keep (a13 _ _ _ _ _ _ _ _ _ _ _ _ _ _ _ _ _ _ _ _).comm hPd hk1
    have hPo := ap_keep (a23 _ _ _ _ _ _ _ _ _ _ _ _ _ _).comm hPo hk1
    have hPg := ap_keep (a34 _ _ _ _ _ _ _ _ _ _ _ _ _ _) hPg hk1
    obtain ⟨hk5, hw⟩ := hw
    have e5 : u = 0 := hk5.trans hk9.symm
    subst e5
    have hw := hw rfl
    have hPm : va_P E.1 vwCl (mC E mm 0 dy rn cn tn NU WE AT zs BU AV LS LT) H1 := hB
    clear hDc hFc
    generalize H1 = H at hPd hPo hPm hPg hS ⊢
    subst hw
    have heq := op_level hR (xs (i + 1)) hk9
    refine lv_istore (lv' := [(7, .int (levM NU (Int32.toNatClampNeg (xs (i + 1))))), (6, .int 0), (0, .ref b), (1, .ref (ad 0)), (2, .ref (mm 0)), (3, .ref o0), (4, .ref d0), (5, .int (nI i))]) hx hb dL_law_743 hl (by decide) rfl (fun ls hl => ?_)
    refine lv_aload_n hx hb dL_law_745 rfl (lv_at hl 4 rfl) ?_
    have hPt : va_P E.1 vwCl [(mm 0, .inr (5, [.int 0, .int (nI dy), .int (nI rn), .ref (mm 1), .ref (mm 2), .ref (mm 3), .ref (mm 4), .ref (mm 5), .int (nI cn), .ref (mm 6), .int (nI tn), .ref (mm 7), .ref (mm 8)]))] H := hPm.sub [0] rfl
    refine va_calli (va_runV (As := []) (rest := []) ⟨hx, hb, hml, hown, hts⟩ (kX5_thrown l E (mm 0) (mm 1) (mm 2) (mm 3) (mm 4) (mm 5) (mm 6) (mm 7) (mm 8) 0 dy rn cn tn ) (cwV 0 hts gL_law_X5_thrown rfl rfl rfl (by decide +kernel) ⟨Nat.le_of_ble_eq_true rfl, Nat.le_of_ble_eq_true rfl⟩) ⟨fb_R, va_recv hE.1 hPm (ci := 5) (q0 := 0) rfl rfl, fun U hU hW => ⟨rfl, by rw [hU]; exact hPt, hE.warm hW⟩⟩ rfl rfl hl.1 rfl (lv_room (Nat.le_of_ble_eq_true rfl)) dL_law_746 ⟨by show _ ≤ 601024; omega, by show _ ≤ 7293034; omega⟩) hS (fun q _ h => h.elim) (fun q h => h.elim) (fun r746 u t H1 locs ht hvm hw hB hz1 hk1 hS => ?_)
    have hPd := hPd.ro hk1
    have hPo := hPo.ro hk1
    have hPm := hPm.ro hk1
    have hPg := hPg.ro hk1
    generalize H1 = H at hPd hPo hPm hPg hS ⊢
    subst hw
    refine lv_iload hx hb dL_law_749 (lv_at hl 1 rfl) ?_
    refine mz_eqN hx hb 0 0 (tgt := 756) dL_law_751 (by decide) (by omega) (by omega) (fun _ => ?_) (fun c9 => absurd rfl c9)
    refine lv_iload hx hb dL_law_756 (lv_at hl 1 rfl) ?_
    refine lv_if_ne (tgt := 773) hx hb dL_law_758 (by decide) (fun c9 => absurd rfl c9) (fun _ => ?_)
    refine lv_aload_n hx hb dL_law_761 rfl (lv_at hl 5 rfl) ?_
    refine lv_iconst (v := 0) hx hb dL_law_762 (by decide) ?_
    refine la_lld hx hb hE hPo dL_law_763 ?_
    refine lv_iload hx hb dL_law_764 (lv_at hl 0 rfl) ?_
    refine lv_i2l hx hb dL_law_766 rfl ?_
    refine la_eqL hx hb (congrArg Int32.toInt64 heq) (tgt := 773) dL_law_767 dL_law_768 (by decide) ?_
    refine lv_goto (tgt := 1642) hx hb dL_law_773 (by decide) ?_
    refine W.widen (k := cl + 740) (n := sl + 3700) (by omega) (by omega) ?_
    exact K _ _ _ ⟨_, _, _, _, _, _, _, _, _, _, _, _, _, _, _, _, _, hR, hPd, hPo, hPm, hPg⟩ hS (lv_sub hl [2, 3, 4, 5, 6, 7] rfl)
  · obtain ⟨k, rfl⟩ : ∃ k9, k = k9 + 1 := ⟨k - 1, by omega⟩
    have hB : va_P E.1 vwCl ((dC E ad S zs rn dy bn cn tn) ++ [oL E o0 f0]) H1 := hB
    have hPd := fr_l hB
    have hPo := fr_r hB
    clear hPw hDw hFc
    generalize H1 = H at hPd hPo hPm hPg hS ⊢
    refine lv_istore (lv' := [(6, .int (nI (k + 1))), (0, .ref b), (1, .ref (ad 0)), (2, .ref (mm 0)), (3, .ref o0), (4, .ref d0), (5, .int (nI i))]) hx hb dL_law_731 hl (by decide) rfl (fun ls hl => ?_)
    refine lv_aload_n hx hb dL_law_733 rfl (lv_at hl 3 rfl) ?_
    refine lv_aload_n hx hb dL_law_734 rfl (lv_at hl 1 rfl) ?_
    refine lv_iload hx hb dL_law_735 (lv_at hl 6 rfl) ?_
    refine lv_iconst (v := 1) hx hb dL_law_737 (by decide) ?_
    refine mz_addN hx hb i 1 dL_law_738 ?_
    refine la_sld hx hb hX hbl hbA hS (i + 1) (by omega) hL dL_law_739 ?_
    have hDc : va_D (fun q : Nat => s.heap.size ≤ q) (mC E mm th dy rn cn tn NU WE AT zs BU AV LS LT) := d3 _ _ _ _ _ _ _ _ _ _ _ _ _
    have hFc := fr_free hDc hS hA
    refine va_calli (va_runV (As := [.int (xs (i + 1))]) (rest := []) ⟨hx, hb, hml, hown, hts⟩ (kX5_level_ l E (mm 0) (mm 1) (mm 2) (mm 3) (mm 4) (mm 5) (mm 6) (mm 7) (mm 8) th dy rn cn tn NU WE AT zs BU AV LS LT (xs (i + 1)) H.size (by first | omega | assumption | exact hz) (by first | omega | assumption | exact hz)) (cwV 1 hts gL_law_X5_level_ rfl rfl rfl (by decide +kernel) ⟨Nat.le_of_ble_eq_true rfl, Nat.le_of_ble_eq_true rfl⟩) ⟨fb_W, va_recv hE.1 hPm (ci := 5) (q0 := 0) rfl rfl, fun U hU hW => ⟨rfl, by rw [hU], by rw [hU]; exact hPm, hDc.weaken (fun _ _ _ _ => trivial), hE.warm hW⟩⟩ rfl rfl hl.1 rfl (lv_room (Nat.le_of_ble_eq_true rfl)) dL_law_740 ⟨by show _ ≤ 601024; omega, by show _ ≤ 7293034; omega⟩) hS (fun q _ h => hFc q h) hFc (fun r740 u t H1 locs ht hvm hw hB hz1 hk1 hS => ?_)
    rw [ht] at hB
    have hPd := ap_keep (a13 _ _ _ _ _ _ _ _ _ _ _ _ _ _ _ _ _ _ _ _).comm hPd hk1
    have hPo := ap_keep (a23 _ _ _ _ _ _ _ _ _ _ _ _ _ _).comm hPo hk1
    have hPg := ap_keep (a34 _ _ _ _ _ _ _ _ _ _ _ _ _ _) hPg hk1
    obtain ⟨hk5, hw⟩ := hw
    have e5 : u = k + 1 := hk5.trans hk9.symm
    subst e5
    have hPm : va_P E.1 vwCl (mC E mm (nI (k + 1)) dy rn cn tn NU WE AT zs BU AV LS LT) H1 := hB
    clear hDc hFc
    generalize H1 = H at hPd hPo hPm hPg hS ⊢
    refine lv_istore (lv' := [(7, .int r740), (6, .int (nI (k + 1))), (0, .ref b), (1, .ref (ad 0)), (2, .ref (mm 0)), (3, .ref o0), (4, .ref d0), (5, .int (nI i))]) hx hb dL_law_743 hl (by decide) rfl (fun ls hl => ?_)
    refine lv_aload_n hx hb dL_law_745 rfl (lv_at hl 4 rfl) ?_
    have hPt : va_P E.1 vwCl [(mm 0, .inr (5, [.int (nI (k + 1)), .int (nI dy), .int (nI rn), .ref (mm 1), .ref (mm 2), .ref (mm 3), .ref (mm 4), .ref (mm 5), .int (nI cn), .ref (mm 6), .int (nI tn), .ref (mm 7), .ref (mm 8)]))] H := hPm.sub [0] rfl
    refine va_calli (va_runV (As := []) (rest := []) ⟨hx, hb, hml, hown, hts⟩ (kX5_thrown l E (mm 0) (mm 1) (mm 2) (mm 3) (mm 4) (mm 5) (mm 6) (mm 7) (mm 8) (nI (k + 1)) dy rn cn tn ) (cwV 0 hts gL_law_X5_thrown rfl rfl rfl (by decide +kernel) ⟨Nat.le_of_ble_eq_true rfl, Nat.le_of_ble_eq_true rfl⟩) ⟨fb_R, va_recv hE.1 hPm (ci := 5) (q0 := 0) rfl rfl, fun U hU hW => ⟨rfl, by rw [hU]; exact hPt, hE.warm hW⟩⟩ rfl rfl hl.1 rfl (lv_room (Nat.le_of_ble_eq_true rfl)) dL_law_746 ⟨by show _ ≤ 601024; omega, by show _ ≤ 7293034; omega⟩) hS (fun q _ h => h.elim) (fun q h => h.elim) (fun r746 u t H1 locs ht hvm hw hB hz1 hk1 hS => ?_)
    have hPd := hPd.ro hk1
    have hPo := hPo.ro hk1
    have hPm := hPm.ro hk1
    have hPg := hPg.ro hk1
    generalize H1 = H at hPd hPo hPm hPg hS ⊢
    subst hw
    refine lv_iload hx hb dL_law_749 (lv_at hl 1 rfl) ?_
    refine mz_eqN hx hb (k + 1) (k + 1) (tgt := 756) dL_law_751 (by decide) (by omega) (by omega) (fun _ => ?_) (fun c9 => absurd rfl c9)
    refine lv_iload hx hb dL_law_756 (lv_at hl 1 rfl) ?_
    refine mz_ifneN hx hb (k + 1) (tgt := 773) dL_law_758 (by decide) (by omega) (fun _ => ?_) (fun c9 => absurd c9 (by omega))
    refine lv_goto (tgt := 1642) hx hb dL_law_773 (by decide) ?_
    refine W.widen (k := cl + 740) (n := sl + 3700) (by omega) (by omega) ?_
    exact K _ _ _ ⟨_, _, _, _, _, _, _, _, _, _, _, _, _, _, _, _, _, hR, hPd, hPo, hPm, hPg⟩ hS (lv_sub hl [2, 3, 4, 5, 6, 7] rfl)
set_option maxHeartbeats 4000000 in
set_option maxRecDepth 100000 in
theorem arm_core {p : Program} {e : Env} {s : State} {m : MethodId} {below : List Frame} {meth : Method} {c : Code} (l : Launch) (hlt : l.stackTraces = false) {b L : Nat} {xs : Nat → Int32} (hL : L ≤ 3072) (C0 : lw_At p s m meth c b L xs) {E : ev_T} {ad mm : Nat → Nat} {o0 d0 : Nat} (hE : ev_U E s) (hU9 : ex_U (fun q : Nat => s.heap.size ≤ q) s s.heap) (hLD : LD E ad mm o0 d0 (fun q : Nat => s.heap.size ≤ q)) {i cl sl : Nat} (hi : i + 6 ≤ L) (hcl : cl + 740 ≤ 601024) (hsl : sl + 3700 ≤ 7293034)
    (K : ∀ (H : Heap) (locs : List Loc) (ls : Array Slot), LX E ad mm o0 d0 H → va_S (fun q : Nat => s.heap.size ≤ q) s.heap H locs → lv_has ls 9 [(0, .ref b), (1, .ref (ad 0)), (2, .ref (mm 0)), (3, .ref o0), (4, .ref d0), (5, .int (nI i))] → W p l e room_1 s m #[Value.ref b] below meth c H locs (cl + 740) (sl + 3700) (lw_Z below #[Value.ref b] s) (F0 m 1642 ls []))
    {H : Heap} {locs : List Loc} {ls : Array Slot} (hX0 : LX E ad mm o0 d0 H) (hS : va_S (fun q : Nat => s.heap.size ≤ q) s.heap H locs) (hl : lv_has ls 9 [(0, .ref b), (1, .ref (ad 0)), (2, .ref (mm 0)), (3, .ref o0), (4, .ref d0), (5, .int (nI i))]) : W p l e room_1 s m #[Value.ref b] below meth c H locs cl sl (lw_Z below #[Value.ref b] s) (F0 m 776 ls []) := by
  obtain ⟨hx, hb, hr, hml, hown, hts0, hX, hbl, hlocks, hgv⟩ := id C0
  have hts : ∀ w ∈ wsL_law, w.before #[Value.ref b] s = true := fun w h => hts0 w (wsL_law_in w h)
  have hown : s.vm.findClass RL = some m.cls := hown
  obtain ⟨S, zs, rn, dy, bn, cn, tn, th, NU, WE, AT, BU, AV, LS, LT, f0, g0, hR, hPd, hPo, hPm, hPg⟩ := hX0
  obtain ⟨d1, d2, d3, d4, a12, a13, a14, a23, a24, a34⟩ := hLD
  have hA : ∀ q : Nat, s.heap.size ≤ q → (fun q : Nat => s.heap.size ≤ q) q := fun _ h => h
  have hbA : ¬ (fun q : Nat => s.heap.size ≤ q) b := Nat.not_le.mpr hbl
  obtain ⟨h6, h60, h200, h20⟩ := hR.1
  have hz := hR.hz
  refine lv_aload_n hx hb dL_law_776 rfl (lv_at hl 1 rfl) ?_
  refine lv_aload_n hx hb dL_law_777 rfl (lv_at hl 0 rfl) ?_
  refine lv_iload hx hb dL_law_778 (lv_at hl 5 rfl) ?_
  refine lv_iconst (v := 1) hx hb dL_law_780 (by decide) ?_
  refine mz_addN hx hb i 1 dL_law_781 ?_
  refine la_sld hx hb hX hbl hbA hS (i + 1) (by omega) hL dL_law_782 ?_
  refine lv_aload_n hx hb dL_law_783 rfl (lv_at hl 3 rfl) ?_
  have hPw : va_P E.1 vwCl ((dC E ad S zs rn dy bn cn tn) ++ [oL E o0 f0]) H := hPd.app hPo
  have hDw : va_D (fun q : Nat => s.heap.size ≤ q) ((dC E ad S zs rn dy bn cn tn) ++ [oL E o0 f0]) := (d1 _ _ _ _ _ _ _).app (d2 _) (a12 _ _ _ _ _ _ _ _)
  have hFc := fr_free hDw hS hA
  refine va_calli (vx_runSW (As := [.ref (ad 0), .int (xs (i + 1)), .ref o0]) (rest := []) ⟨hx, hb, hml, hown, hts⟩ (kL_core l hlt E ad S zs rn dy bn cn tn (xs (i + 1)) o0 f0 H.size (by first | omega | assumption | exact h60 | exact h6 | exact h20 | exact h200) (by first | omega | assumption | exact h60 | exact h6 | exact h20 | exact h200)) (vx_cwSW 3 hts gL_law_L_core rfl rfl rfl (by decide +kernel) ⟨Nat.le_of_ble_eq_true rfl, Nat.le_of_ble_eq_true rfl⟩) ⟨fb_Y, fun U hU hW => ⟨rfl, by rw [hU], by rw [hU]; exact hPw, hDw.weaken (fun _ _ _ _ => trivial), hE.warm hW, hU9.to hS hFc hU hW⟩⟩ rfl rfl hl.1 rfl (lv_room (Nat.le_of_ble_eq_true rfl)) dL_law_784 ⟨by show _ ≤ 601024; omega, by show _ ≤ 7293034; omega⟩) hS (fun q _ h => hFc q h) hFc (fun r9 k t H1 locs ht hvm hw hB hz1 hk1 hS => ?_)
  obtain ⟨hr9, hk9⟩ := hw
  subst hr9
  rw [ht] at hB
  have hPm := ap_keep (ap.both (a13 _ _ _ _ _ _ _ _ _ _ _ _ _ _ _ _ _ _ _ _) (a23 _ _ _ _ _ _ _ _ _ _ _ _ _ _)) hPm hk1
  have hPg := ap_keep (ap.both (a14 _ _ _ _ _ _ _ _) (a24 _ _)) hPg hk1
  have hle9 := tReg_le (xs (i + 1)) rn
  rcases Nat.eq_zero_or_pos k with hk0 | hk0
  · subst hk0
    have hB : va_P E.1 vwCl ((dC E ad S zs rn dy bn cn tn) ++ [oL E o0 (vp_updL f0 0 (Int32.toInt64 (crA (S (3 + 2 * (Int32.toNatClampNeg (xs (i + 1))))) (levA (S (3 + 2 * (Int32.toNatClampNeg (xs (i + 1)))))) 12)))]) H1 := hB
    have hPd := fr_l hB
    have hPo := fr_r hB
    clear hPw hDw hFc
    generalize H1 = H at hPd hPo hPm hPg hS ⊢
    refine lv_istore (lv' := [(6, .int 0), (0, .ref b), (1, .ref (ad 0)), (2, .ref (mm 0)), (3, .ref o0), (4, .ref d0), (5, .int (nI i))]) hx hb dL_law_787 hl (by decide) rfl (fun ls hl => ?_)
    refine lv_aload_n hx hb dL_law_789 rfl (lv_at hl 3 rfl) ?_
    refine lv_aload_n hx hb dL_law_790 rfl (lv_at hl 1 rfl) ?_
    refine lv_iload hx hb dL_law_791 (lv_at hl 6 rfl) ?_
    refine lv_iconst (v := 1) hx hb dL_law_793 (by decide) ?_
    refine mz_addN hx hb i 1 dL_law_794 ?_
    refine la_sld hx hb hX hbl hbA hS (i + 1) (by omega) hL dL_law_795 ?_
    have hDc : va_D (fun q : Nat => s.heap.size ≤ q) (mC E mm th dy rn cn tn NU WE AT zs BU AV LS LT) := d3 _ _ _ _ _ _ _ _ _ _ _ _ _
    have hFc := fr_free hDc hS hA
    refine va_calli (va_runV (As := [.int (xs (i + 1))]) (rest := []) ⟨hx, hb, hml, hown, hts⟩ (kX5_core l E (mm 0) (mm 1) (mm 2) (mm 3) (mm 4) (mm 5) (mm 6) (mm 7) (mm 8) th dy rn cn tn NU WE AT zs BU AV LS LT (xs (i + 1)) H.size (by first | omega | assumption | exact hz) (by first | omega | assumption | exact hz)) (cwV 1 hts gL_law_X5_core rfl rfl rfl (by decide +kernel) ⟨Nat.le_of_ble_eq_true rfl, Nat.le_of_ble_eq_true rfl⟩) ⟨fb_W, va_recv hE.1 hPm (ci := 5) (q0 := 0) rfl rfl, fun U hU hW => ⟨rfl, by rw [hU], by rw [hU]; exact hPm, hDc.weaken (fun _ _ _ _ => trivial), hE.warm hW⟩⟩ rfl rfl hl.1 rfl (lv_room (Nat.le_of_ble_eq_true rfl)) dL_law_796 ⟨by show _ ≤ 601024; omega, by show _ ≤ 7293034; omega⟩) hS (fun q _ h => hFc q h) hFc (fun r796 u t H1 locs ht hvm hw hB hz1 hk1 hS => ?_)
    rw [ht] at hB
    have hPd := ap_keep (a13 _ _ _ _ _ _ _ _ _ _ _ _ _ _ _ _ _ _ _ _).comm hPd hk1
    have hPo := ap_keep (a23 _ _ _ _ _ _ _ _ _ _ _ _ _ _).comm hPo hk1
    have hPg := ap_keep (a34 _ _ _ _ _ _ _ _ _ _ _ _ _ _) hPg hk1
    obtain ⟨hk5, hw⟩ := hw
    have e5 : u = 0 := hk5.trans hk9.symm
    subst e5
    have hw := hw rfl
    have hPm : va_P E.1 vwCl (mC E mm 0 dy rn cn tn NU WE AT zs BU AV LS LT) H1 := hB
    clear hDc hFc
    generalize H1 = H at hPd hPo hPm hPg hS ⊢
    subst hw
    have heq := op_core hR (xs (i + 1)) hk9
    refine lv_istore (lv' := [(7, .int (corM NU (Int32.toNatClampNeg (xs (i + 1))))), (6, .int 0), (0, .ref b), (1, .ref (ad 0)), (2, .ref (mm 0)), (3, .ref o0), (4, .ref d0), (5, .int (nI i))]) hx hb dL_law_799 hl (by decide) rfl (fun ls hl => ?_)
    refine lv_aload_n hx hb dL_law_801 rfl (lv_at hl 4 rfl) ?_
    have hPt : va_P E.1 vwCl [(mm 0, .inr (5, [.int 0, .int (nI dy), .int (nI rn), .ref (mm 1), .ref (mm 2), .ref (mm 3), .ref (mm 4), .ref (mm 5), .int (nI cn), .ref (mm 6), .int (nI tn), .ref (mm 7), .ref (mm 8)]))] H := hPm.sub [0] rfl
    refine va_calli (va_runV (As := []) (rest := []) ⟨hx, hb, hml, hown, hts⟩ (kX5_thrown l E (mm 0) (mm 1) (mm 2) (mm 3) (mm 4) (mm 5) (mm 6) (mm 7) (mm 8) 0 dy rn cn tn ) (cwV 0 hts gL_law_X5_thrown rfl rfl rfl (by decide +kernel) ⟨Nat.le_of_ble_eq_true rfl, Nat.le_of_ble_eq_true rfl⟩) ⟨fb_R, va_recv hE.1 hPm (ci := 5) (q0 := 0) rfl rfl, fun U hU hW => ⟨rfl, by rw [hU]; exact hPt, hE.warm hW⟩⟩ rfl rfl hl.1 rfl (lv_room (Nat.le_of_ble_eq_true rfl)) dL_law_802 ⟨by show _ ≤ 601024; omega, by show _ ≤ 7293034; omega⟩) hS (fun q _ h => h.elim) (fun q h => h.elim) (fun r802 u t H1 locs ht hvm hw hB hz1 hk1 hS => ?_)
    have hPd := hPd.ro hk1
    have hPo := hPo.ro hk1
    have hPm := hPm.ro hk1
    have hPg := hPg.ro hk1
    generalize H1 = H at hPd hPo hPm hPg hS ⊢
    subst hw
    refine lv_iload hx hb dL_law_805 (lv_at hl 1 rfl) ?_
    refine mz_eqN hx hb 0 0 (tgt := 812) dL_law_807 (by decide) (by omega) (by omega) (fun _ => ?_) (fun c9 => absurd rfl c9)
    refine lv_iload hx hb dL_law_812 (lv_at hl 1 rfl) ?_
    refine lv_if_ne (tgt := 829) hx hb dL_law_814 (by decide) (fun c9 => absurd rfl c9) (fun _ => ?_)
    refine lv_aload_n hx hb dL_law_817 rfl (lv_at hl 5 rfl) ?_
    refine lv_iconst (v := 0) hx hb dL_law_818 (by decide) ?_
    refine la_lld hx hb hE hPo dL_law_819 ?_
    refine lv_iload hx hb dL_law_820 (lv_at hl 0 rfl) ?_
    refine lv_i2l hx hb dL_law_822 rfl ?_
    refine la_eqL hx hb (congrArg Int32.toInt64 heq) (tgt := 829) dL_law_823 dL_law_824 (by decide) ?_
    refine lv_goto (tgt := 1642) hx hb dL_law_829 (by decide) ?_
    refine W.widen (k := cl + 740) (n := sl + 3700) (by omega) (by omega) ?_
    exact K _ _ _ ⟨_, _, _, _, _, _, _, _, _, _, _, _, _, _, _, _, _, hR, hPd, hPo, hPm, hPg⟩ hS (lv_sub hl [2, 3, 4, 5, 6, 7] rfl)
  · obtain ⟨k, rfl⟩ : ∃ k9, k = k9 + 1 := ⟨k - 1, by omega⟩
    have hB : va_P E.1 vwCl ((dC E ad S zs rn dy bn cn tn) ++ [oL E o0 f0]) H1 := hB
    have hPd := fr_l hB
    have hPo := fr_r hB
    clear hPw hDw hFc
    generalize H1 = H at hPd hPo hPm hPg hS ⊢
    refine lv_istore (lv' := [(6, .int (nI (k + 1))), (0, .ref b), (1, .ref (ad 0)), (2, .ref (mm 0)), (3, .ref o0), (4, .ref d0), (5, .int (nI i))]) hx hb dL_law_787 hl (by decide) rfl (fun ls hl => ?_)
    refine lv_aload_n hx hb dL_law_789 rfl (lv_at hl 3 rfl) ?_
    refine lv_aload_n hx hb dL_law_790 rfl (lv_at hl 1 rfl) ?_
    refine lv_iload hx hb dL_law_791 (lv_at hl 6 rfl) ?_
    refine lv_iconst (v := 1) hx hb dL_law_793 (by decide) ?_
    refine mz_addN hx hb i 1 dL_law_794 ?_
    refine la_sld hx hb hX hbl hbA hS (i + 1) (by omega) hL dL_law_795 ?_
    have hDc : va_D (fun q : Nat => s.heap.size ≤ q) (mC E mm th dy rn cn tn NU WE AT zs BU AV LS LT) := d3 _ _ _ _ _ _ _ _ _ _ _ _ _
    have hFc := fr_free hDc hS hA
    refine va_calli (va_runV (As := [.int (xs (i + 1))]) (rest := []) ⟨hx, hb, hml, hown, hts⟩ (kX5_core l E (mm 0) (mm 1) (mm 2) (mm 3) (mm 4) (mm 5) (mm 6) (mm 7) (mm 8) th dy rn cn tn NU WE AT zs BU AV LS LT (xs (i + 1)) H.size (by first | omega | assumption | exact hz) (by first | omega | assumption | exact hz)) (cwV 1 hts gL_law_X5_core rfl rfl rfl (by decide +kernel) ⟨Nat.le_of_ble_eq_true rfl, Nat.le_of_ble_eq_true rfl⟩) ⟨fb_W, va_recv hE.1 hPm (ci := 5) (q0 := 0) rfl rfl, fun U hU hW => ⟨rfl, by rw [hU], by rw [hU]; exact hPm, hDc.weaken (fun _ _ _ _ => trivial), hE.warm hW⟩⟩ rfl rfl hl.1 rfl (lv_room (Nat.le_of_ble_eq_true rfl)) dL_law_796 ⟨by show _ ≤ 601024; omega, by show _ ≤ 7293034; omega⟩) hS (fun q _ h => hFc q h) hFc (fun r796 u t H1 locs ht hvm hw hB hz1 hk1 hS => ?_)
    rw [ht] at hB
    have hPd := ap_keep (a13 _ _ _ _ _ _ _ _ _ _ _ _ _ _ _ _ _ _ _ _).comm hPd hk1
    have hPo := ap_keep (a23 _ _ _ _ _ _ _ _ _ _ _ _ _ _).comm hPo hk1
    have hPg := ap_keep (a34 _ _ _ _ _ _ _ _ _ _ _ _ _ _) hPg hk1
    obtain ⟨hk5, hw⟩ := hw
    have e5 : u = k + 1 := hk5.trans hk9.symm
    subst e5
    have hPm : va_P E.1 vwCl (mC E mm (nI (k + 1)) dy rn cn tn NU WE AT zs BU AV LS LT) H1 := hB
    clear hDc hFc
    generalize H1 = H at hPd hPo hPm hPg hS ⊢
    refine lv_istore (lv' := [(7, .int r796), (6, .int (nI (k + 1))), (0, .ref b), (1, .ref (ad 0)), (2, .ref (mm 0)), (3, .ref o0), (4, .ref d0), (5, .int (nI i))]) hx hb dL_law_799 hl (by decide) rfl (fun ls hl => ?_)
    refine lv_aload_n hx hb dL_law_801 rfl (lv_at hl 4 rfl) ?_
    have hPt : va_P E.1 vwCl [(mm 0, .inr (5, [.int (nI (k + 1)), .int (nI dy), .int (nI rn), .ref (mm 1), .ref (mm 2), .ref (mm 3), .ref (mm 4), .ref (mm 5), .int (nI cn), .ref (mm 6), .int (nI tn), .ref (mm 7), .ref (mm 8)]))] H := hPm.sub [0] rfl
    refine va_calli (va_runV (As := []) (rest := []) ⟨hx, hb, hml, hown, hts⟩ (kX5_thrown l E (mm 0) (mm 1) (mm 2) (mm 3) (mm 4) (mm 5) (mm 6) (mm 7) (mm 8) (nI (k + 1)) dy rn cn tn ) (cwV 0 hts gL_law_X5_thrown rfl rfl rfl (by decide +kernel) ⟨Nat.le_of_ble_eq_true rfl, Nat.le_of_ble_eq_true rfl⟩) ⟨fb_R, va_recv hE.1 hPm (ci := 5) (q0 := 0) rfl rfl, fun U hU hW => ⟨rfl, by rw [hU]; exact hPt, hE.warm hW⟩⟩ rfl rfl hl.1 rfl (lv_room (Nat.le_of_ble_eq_true rfl)) dL_law_802 ⟨by show _ ≤ 601024; omega, by show _ ≤ 7293034; omega⟩) hS (fun q _ h => h.elim) (fun q h => h.elim) (fun r802 u t H1 locs ht hvm hw hB hz1 hk1 hS => ?_)
    have hPd := hPd.ro hk1
    have hPo := hPo.ro hk1
    have hPm := hPm.ro hk1
    have hPg := hPg.ro hk1
    generalize H1 = H at hPd hPo hPm hPg hS ⊢
    subst hw
    refine lv_iload hx hb dL_law_805 (lv_at hl 1 rfl) ?_
    refine mz_eqN hx hb (k + 1) (k + 1) (tgt := 812) dL_law_807 (by decide) (by omega) (by omega) (fun _ => ?_) (fun c9 => absurd rfl c9)
    refine lv_iload hx hb dL_law_812 (lv_at hl 1 rfl) ?_
    refine mz_ifneN hx hb (k + 1) (tgt := 829) dL_law_814 (by decide) (by omega) (fun _ => ?_) (fun c9 => absurd c9 (by omega))
    refine lv_goto (tgt := 1642) hx hb dL_law_829 (by decide) ?_
    refine W.widen (k := cl + 740) (n := sl + 3700) (by omega) (by omega) ?_
    exact K _ _ _ ⟨_, _, _, _, _, _, _, _, _, _, _, _, _, _, _, _, _, hR, hPd, hPo, hPm, hPg⟩ hS (lv_sub hl [2, 3, 4, 5, 6, 7] rfl)
