set_option maxHeartbeats 4000000 in
set_option maxRecDepth 100000 in
theorem arm_clearRoute {p : Program} {e : Env} {s : State} {m : MethodId} {below : List Frame} {meth : Method} {c : Code} (l : Launch) (hlt : l.stackTraces = false) {b L : Nat} {xs : Nat → Int32} (hL : L ≤ 3072) (C0 : lw_At p s m meth c b L xs) {E : ev_T} {ad mm : Nat → Nat} {o0 d0 : Nat} (hE : ev_U E s) (hU9 : ex_U (fun q : Nat => s.heap.size ≤ q) s s.heap) (hLD : LD E ad mm o0 d0 (fun q : Nat => s.heap.size ≤ q)) {i cl sl : Nat} (hi : i + 6 ≤ L) (hcl : cl + 740 ≤ 601024) (hsl : sl + 3700 ≤ 7293034)
    (K : ∀ (H : Heap) (locs : List Loc) (ls : Array Slot), LX E ad mm o0 d0 H → va_S (fun q : Nat => s.heap.size ≤ q) s.heap H locs → lv_has ls 9 [(0, .ref b), (1, .ref (ad 0)), (2, .ref (mm 0)), (3, .ref o0), (4, .ref d0), (5, .int (nI i))] → W p l e room_1 s m #[Value.ref b] below meth c H locs (cl + 740) (sl + 3700) (lw_Z below #[Value.ref b] s) (F0 m 1642 ls []))
    {H : Heap} {locs : List Loc} {ls : Array Slot} (hX0 : LX E ad mm o0 d0 H) (hS : va_S (fun q : Nat => s.heap.size ≤ q) s.heap H locs) (hl : lv_has ls 9 [(0, .ref b), (1, .ref (ad 0)), (2, .ref (mm 0)), (3, .ref o0), (4, .ref d0), (5, .int (nI i))]) : W p l e room_1 s m #[Value.ref b] below meth c H locs cl sl (lw_Z below #[Value.ref b] s) (F0 m 1478 ls []) := by
  obtain ⟨hx, hb, hr, hml, hown, hts0, hX, hbl, hlocks, hgv⟩ := id C0
  have hts : ∀ w ∈ wsL_law, w.before #[Value.ref b] s = true := fun w h => hts0 w (wsL_law_in w h)
  have hown : s.vm.findClass RL = some m.cls := hown
  obtain ⟨S, zs, rn, dy, bn, cn, tn, th, NU, WE, AT, BU, AV, LS, LT, f0, g0, hR, hPd, hPo, hPm, hPg⟩ := hX0
  obtain ⟨d1, d2, d3, d4, a12, a13, a14, a23, a24, a34⟩ := hLD
  have hA : ∀ q : Nat, s.heap.size ≤ q → (fun q : Nat => s.heap.size ≤ q) q := fun _ h => h
  have hbA : ¬ (fun q : Nat => s.heap.size ≤ q) b := Nat.not_le.mpr hbl
  obtain ⟨h6, h60, h200, h20⟩ := hR.1
  have hz := hR.hz
  refine lv_aload_n hx hb dL_law_1478 rfl (lv_at hl 1 rfl) ?_
  have hDc : va_D (fun q : Nat => s.heap.size ≤ q) (dC E ad S zs rn dy bn cn tn) := d1 _ _ _ _ _ _ _
  have hFc := fr_free hDc hS hA
  refine va_calli (va_runV (As := []) (rest := []) ⟨hx, hb, hml, hown, hts⟩ (kX4_clearRoute l E ad S zs rn dy bn cn tn H.size (by first | omega | assumption | exact hz) (by first | omega | assumption | exact hz)) (cwV 0 hts gL_law_X4_clearRoute rfl rfl rfl (by decide +kernel) ⟨Nat.le_of_ble_eq_true rfl, Nat.le_of_ble_eq_true rfl⟩) ⟨fb_W, va_recv hE.1 hPd (ci := 4) (q0 := 0) rfl rfl, fun U hU hW => ⟨rfl, by rw [hU], by rw [hU]; exact hPd, hDc.weaken (fun _ _ _ _ => trivial), hE.warm hW⟩⟩ rfl rfl hl.1 rfl (lv_room (Nat.le_of_ble_eq_true rfl)) dL_law_1479 ⟨by show _ ≤ 601024; omega, by show _ ≤ 7293034; omega⟩) hS (fun q _ h => hFc q h) hFc (fun r1479 u t H1 locs ht hvm hw hB hz1 hk1 hS => ?_)
  rw [ht] at hB
  have hPm := ap_keep (a13 _ _ _ _ _ _ _ _ _ _ _ _ _ _ _ _ _ _ _ _) hPm hk1
  have hPo := ap_keep (a12 _ _ _ _ _ _ _ _) hPo hk1
  have hPg := ap_keep (a14 _ _ _ _ _ _ _ _) hPg hk1
  have hPd : va_P E.1 vwCl (dC E ad S zs rn dy bn cn 0) H1 := hB
  clear hDc hFc
  generalize H1 = H at hPd hPo hPm hPg hS ⊢
  subst hw
  refine lv_aload_n hx hb dL_law_1482 rfl (lv_at hl 2 rfl) ?_
  have hDc : va_D (fun q : Nat => s.heap.size ≤ q) (mC E mm th dy rn cn tn NU WE AT zs BU AV LS LT) := d3 _ _ _ _ _ _ _ _ _ _ _ _ _
  have hFc := fr_free hDc hS hA
  refine va_calli (va_runV (As := []) (rest := [.int (nI tn)]) ⟨hx, hb, hml, hown, hts⟩ (kX5_clearRoute l E (mm 0) (mm 1) (mm 2) (mm 3) (mm 4) (mm 5) (mm 6) (mm 7) (mm 8) th dy rn cn tn NU WE AT zs BU AV LS LT H.size ) (cwV 0 hts gL_law_X5_clearRoute rfl rfl rfl (by decide +kernel) ⟨Nat.le_of_ble_eq_true rfl, Nat.le_of_ble_eq_true rfl⟩) ⟨fb_W, va_recv hE.1 hPm (ci := 5) (q0 := 0) rfl rfl, fun U hU hW => ⟨rfl, by rw [hU], by rw [hU]; exact hPm, hDc.weaken (fun _ _ _ _ => trivial), hE.warm hW⟩⟩ rfl rfl hl.1 rfl (lv_room (Nat.le_of_ble_eq_true rfl)) dL_law_1483 ⟨by show _ ≤ 601024; omega, by show _ ≤ 7293034; omega⟩) hS (fun q _ h => hFc q h) hFc (fun r1483 u t H1 locs ht hvm hw hB hz1 hk1 hS => ?_)
  rw [ht] at hB
  have hPd := ap_keep (a13 _ _ _ _ _ _ _ _ _ _ _ _ _ _ _ _ _ _ _ _).comm hPd hk1
  have hPo := ap_keep (a23 _ _ _ _ _ _ _ _ _ _ _ _ _ _).comm hPo hk1
  have hPg := ap_keep (a34 _ _ _ _ _ _ _ _ _ _ _ _ _ _) hPg hk1
  have hPm : va_P E.1 vwCl (mC E mm 0 dy rn cn 0 NU WE AT zs BU AV LS LT) H1 := hB
  clear hDc hFc
  generalize H1 = H at hPd hPo hPm hPg hS ⊢
  subst hw
  have hR := op_clear hR
  refine mz_eqN hx hb tn tn (tgt := 1642) dL_law_1486 (by decide) (by omega) (by omega) (fun _ => ?_) (fun c9 => absurd rfl c9)
  refine W.widen (k := cl + 740) (n := sl + 3700) (by omega) (by omega) ?_
  exact K _ _ _ ⟨_, _, _, _, _, _, _, _, _, _, _, _, _, _, _, _, _, hR, hPd, hPo, hPm, hPg⟩ hS (lv_sub hl [0, 1, 2, 3, 4, 5] rfl)
set_option maxHeartbeats 4000000 in
set_option maxRecDepth 100000 in
theorem arm_risk {p : Program} {e : Env} {s : State} {m : MethodId} {below : List Frame} {meth : Method} {c : Code} (l : Launch) (hlt : l.stackTraces = false) {b L : Nat} {xs : Nat → Int32} (hL : L ≤ 3072) (C0 : lw_At p s m meth c b L xs) {E : ev_T} {ad mm : Nat → Nat} {o0 d0 : Nat} (hE : ev_U E s) (hU9 : ex_U (fun q : Nat => s.heap.size ≤ q) s s.heap) (hLD : LD E ad mm o0 d0 (fun q : Nat => s.heap.size ≤ q)) {i cl sl : Nat} (hi : i + 6 ≤ L) (hcl : cl + 740 ≤ 601024) (hsl : sl + 3700 ≤ 7293034)
    (K : ∀ (H : Heap) (locs : List Loc) (ls : Array Slot), LX E ad mm o0 d0 H → va_S (fun q : Nat => s.heap.size ≤ q) s.heap H locs → lv_has ls 9 [(0, .ref b), (1, .ref (ad 0)), (2, .ref (mm 0)), (3, .ref o0), (4, .ref d0), (5, .int (nI i))] → W p l e room_1 s m #[Value.ref b] below meth c H locs (cl + 740) (sl + 3700) (lw_Z below #[Value.ref b] s) (F0 m 1642 ls []))
    {H : Heap} {locs : List Loc} {ls : Array Slot} (hX0 : LX E ad mm o0 d0 H) (hS : va_S (fun q : Nat => s.heap.size ≤ q) s.heap H locs) (hl : lv_has ls 9 [(0, .ref b), (1, .ref (ad 0)), (2, .ref (mm 0)), (3, .ref o0), (4, .ref d0), (5, .int (nI i))]) : W p l e room_1 s m #[Value.ref b] below meth c H locs cl sl (lw_Z below #[Value.ref b] s) (F0 m 1491 ls []) := by
  obtain ⟨hx, hb, hr, hml, hown, hts0, hX, hbl, hlocks, hgv⟩ := id C0
  have hts : ∀ w ∈ wsL_law, w.before #[Value.ref b] s = true := fun w h => hts0 w (wsL_law_in w h)
  have hown : s.vm.findClass RL = some m.cls := hown
  obtain ⟨S, zs, rn, dy, bn, cn, tn, th, NU, WE, AT, BU, AV, LS, LT, f0, g0, hR, hPd, hPo, hPm, hPg⟩ := hX0
  obtain ⟨d1, d2, d3, d4, a12, a13, a14, a23, a24, a34⟩ := hLD
  have hA : ∀ q : Nat, s.heap.size ≤ q → (fun q : Nat => s.heap.size ≤ q) q := fun _ h => h
  have hbA : ¬ (fun q : Nat => s.heap.size ≤ q) b := Nat.not_le.mpr hbl
  obtain ⟨h6, h60, h200, h20⟩ := hR.1
  have hz := hR.hz
  refine lv_aload_n hx hb dL_law_1491 rfl (lv_at hl 1 rfl) ?_
  refine lv_aload_n hx hb dL_law_1492 rfl (lv_at hl 0 rfl) ?_
  refine lv_iload hx hb dL_law_1493 (lv_at hl 5 rfl) ?_
  refine lv_iconst (v := 1) hx hb dL_law_1495 (by decide) ?_
  refine mz_addN hx hb i 1 dL_law_1496 ?_
  refine la_sld hx hb hX hbl hbA hS (i + 1) (by omega) hL dL_law_1497 ?_
  refine lv_aload_n hx hb dL_law_1498 rfl (lv_at hl 0 rfl) ?_
  refine lv_iload hx hb dL_law_1499 (lv_at hl 5 rfl) ?_
  refine lv_iconst (v := 2) hx hb dL_law_1501 (by decide) ?_
  refine mz_addN hx hb i 2 dL_law_1502 ?_
  refine la_sld hx hb hX hbl hbA hS (i + 2) (by omega) hL dL_law_1503 ?_
  refine lv_aload_n hx hb dL_law_1504 rfl (lv_at hl 3 rfl) ?_
  have hPw : va_P E.1 vwCl ((dC E ad S zs rn dy bn cn tn) ++ [oL E o0 f0]) H := hPd.app hPo
  have hDw : va_D (fun q : Nat => s.heap.size ≤ q) ((dC E ad S zs rn dy bn cn tn) ++ [oL E o0 f0]) := (d1 _ _ _ _ _ _ _).app (d2 _) (a12 _ _ _ _ _ _ _ _)
  have hFc := fr_free hDw hS hA
  refine va_calli (vx_runSW (As := [.ref (ad 0), .int (xs (i + 1)), .int (xs (i + 2)), .ref o0]) (rest := []) ⟨hx, hb, hml, hown, hts⟩ (kL_risk l hlt E ad S zs rn dy bn cn tn (xs (i + 1)) (xs (i + 2)) o0 f0 H.size (by first | omega | assumption | exact h60 | exact h6 | exact h20 | exact h200) (by first | omega | assumption | exact h60 | exact h6 | exact h20 | exact h200) (by first | omega | assumption | exact h60 | exact h6 | exact h20 | exact h200)) (vx_cwSW 4 hts gL_law_L_risk rfl rfl rfl (by decide +kernel) ⟨Nat.le_of_ble_eq_true rfl, Nat.le_of_ble_eq_true rfl⟩) ⟨fb_Y, fun U hU hW => ⟨rfl, by rw [hU], by rw [hU]; exact hPw, hDw.weaken (fun _ _ _ _ => trivial), hE.warm hW, hU9.to hS hFc hU hW⟩⟩ rfl rfl hl.1 rfl (lv_room (Nat.le_of_ble_eq_true rfl)) dL_law_1505 ⟨by show _ ≤ 601024; omega, by show _ ≤ 7293034; omega⟩) hS (fun q _ h => hFc q h) hFc (fun r9 k t H1 locs ht hvm hw hB hz1 hk1 hS => ?_)
  obtain ⟨hr9, hk9⟩ := hw
  subst hr9
  rw [ht] at hB
  have hPm := ap_keep (ap.both (a13 _ _ _ _ _ _ _ _ _ _ _ _ _ _ _ _ _ _ _ _) (a23 _ _ _ _ _ _ _ _ _ _ _ _ _ _)) hPm hk1
  have hPg := ap_keep (ap.both (a14 _ _ _ _ _ _ _ _) (a24 _ _)) hPg hk1
  have hle9 := tRsk_le (xs (i + 1)) (xs (i + 2)) rn tn
  rcases Nat.eq_zero_or_pos k with hk0 | hk0
  · subst hk0
    have hB : va_P E.1 vwCl ((dC E ad S zs rn dy bn cn tn) ++ [oL E o0 (vp_updL f0 0 (Int32.toInt64 (rkD (S (3 + 2 * (Int32.toNatClampNeg (xs (i + 1))))) (S 25) (S 26) (Int32.toNatClampNeg (xs (i + 2))))))]) H1 := hB
    have hPd := fr_l hB
    have hPo := fr_r hB
    clear hPw hDw hFc
    generalize H1 = H at hPd hPo hPm hPg hS ⊢
    refine lv_istore (lv' := [(6, .int 0), (0, .ref b), (1, .ref (ad 0)), (2, .ref (mm 0)), (3, .ref o0), (4, .ref d0), (5, .int (nI i))]) hx hb dL_law_1508 hl (by decide) rfl (fun ls hl => ?_)
    refine lv_aload_n hx hb dL_law_1510 rfl (lv_at hl 3 rfl) ?_
    refine lv_aload_n hx hb dL_law_1511 rfl (lv_at hl 1 rfl) ?_
    refine lv_iload hx hb dL_law_1512 (lv_at hl 6 rfl) ?_
    refine lv_iconst (v := 1) hx hb dL_law_1514 (by decide) ?_
    refine mz_addN hx hb i 1 dL_law_1515 ?_
    refine la_sld hx hb hX hbl hbA hS (i + 1) (by omega) hL dL_law_1516 ?_
    refine lv_aload_n hx hb dL_law_1517 rfl (lv_at hl 1 rfl) ?_
    refine lv_iload hx hb dL_law_1518 (lv_at hl 6 rfl) ?_
    refine lv_iconst (v := 2) hx hb dL_law_1520 (by decide) ?_
    refine mz_addN hx hb i 2 dL_law_1521 ?_
    refine la_sld hx hb hX hbl hbA hS (i + 2) (by omega) hL dL_law_1522 ?_
    have hDc : va_D (fun q : Nat => s.heap.size ≤ q) (mC E mm th dy rn cn tn NU WE AT zs BU AV LS LT) := d3 _ _ _ _ _ _ _ _ _ _ _ _ _
    have hFc := fr_free hDc hS hA
    refine va_calli (va_runV (As := [.int (xs (i + 1)), .int (xs (i + 2))]) (rest := []) ⟨hx, hb, hml, hown, hts⟩ (kX5_risk l E (mm 0) (mm 1) (mm 2) (mm 3) (mm 4) (mm 5) (mm 6) (mm 7) (mm 8) th dy rn cn tn NU WE AT zs BU AV LS LT (xs (i + 1)) (xs (i + 2)) H.size (by first | omega | assumption | exact hz) (by first | omega | assumption | exact hz) (by first | omega | assumption | exact hz)) (cwV 2 hts gL_law_X5_risk rfl rfl rfl (by decide +kernel) ⟨Nat.le_of_ble_eq_true rfl, Nat.le_of_ble_eq_true rfl⟩) ⟨fb_W, va_recv hE.1 hPm (ci := 5) (q0 := 0) rfl rfl, fun U hU hW => ⟨rfl, by rw [hU], by rw [hU]; exact hPm, hDc.weaken (fun _ _ _ _ => trivial), hE.warm hW⟩⟩ rfl rfl hl.1 rfl (lv_room (Nat.le_of_ble_eq_true rfl)) dL_law_1523 ⟨by show _ ≤ 601024; omega, by show _ ≤ 7293034; omega⟩) hS (fun q _ h => hFc q h) hFc (fun r1523 u t H1 locs ht hvm hw hB hz1 hk1 hS => ?_)
    rw [ht] at hB
    have hPd := ap_keep (a13 _ _ _ _ _ _ _ _ _ _ _ _ _ _ _ _ _ _ _ _).comm hPd hk1
    have hPo := ap_keep (a23 _ _ _ _ _ _ _ _ _ _ _ _ _ _).comm hPo hk1
    have hPg := ap_keep (a34 _ _ _ _ _ _ _ _ _ _ _ _ _ _) hPg hk1
    obtain ⟨hk5, hw⟩ := hw
    have e5 : u = 0 := hk5.trans hk9.symm
    subst e5
    have hw := hw rfl
    have hPm : va_P E.1 vwCl (mC E mm 0 dy rn cn tn NU WE AT zs BU AV LS LT) H1 := hB
    clear hDc hFc
    generalize H1 = H at hPd hPo hPm hPg hS ⊢
    subst hw
    have heq := op_risk hR (xs (i + 1)) (xs (i + 2)) hk9
    refine lv_istore (lv' := [(7, .int (rkM NU (Int32.toNatClampNeg (xs (i + 1))) (LS (Int32.toNatClampNeg (xs (i + 2)))) (LT (Int32.toNatClampNeg (xs (i + 2)))))), (6, .int 0), (0, .ref b), (1, .ref (ad 0)), (2, .ref (mm 0)), (3, .ref o0), (4, .ref d0), (5, .int (nI i))]) hx hb dL_law_1526 hl (by decide) rfl (fun ls hl => ?_)
    refine lv_aload_n hx hb dL_law_1528 rfl (lv_at hl 4 rfl) ?_
    have hPt : va_P E.1 vwCl [(mm 0, .inr (5, [.int 0, .int (nI dy), .int (nI rn), .ref (mm 1), .ref (mm 2), .ref (mm 3), .ref (mm 4), .ref (mm 5), .int (nI cn), .ref (mm 6), .int (nI tn), .ref (mm 7), .ref (mm 8)]))] H := hPm.sub [0] rfl
    refine va_calli (va_runV (As := []) (rest := []) ⟨hx, hb, hml, hown, hts⟩ (kX5_thrown l E (mm 0) (mm 1) (mm 2) (mm 3) (mm 4) (mm 5) (mm 6) (mm 7) (mm 8) 0 dy rn cn tn ) (cwV 0 hts gL_law_X5_thrown rfl rfl rfl (by decide +kernel) ⟨Nat.le_of_ble_eq_true rfl, Nat.le_of_ble_eq_true rfl⟩) ⟨fb_R, va_recv hE.1 hPm (ci := 5) (q0 := 0) rfl rfl, fun U hU hW => ⟨rfl, by rw [hU]; exact hPt, hE.warm hW⟩⟩ rfl rfl hl.1 rfl (lv_room (Nat.le_of_ble_eq_true rfl)) dL_law_1529 ⟨by show _ ≤ 601024; omega, by show _ ≤ 7293034; omega⟩) hS (fun q _ h => h.elim) (fun q h => h.elim) (fun r1529 u t H1 locs ht hvm hw hB hz1 hk1 hS => ?_)
    have hPd := hPd.ro hk1
    have hPo := hPo.ro hk1
    have hPm := hPm.ro hk1
    have hPg := hPg.ro hk1
    generalize H1 = H at hPd hPo hPm hPg hS ⊢
    subst hw
    refine lv_iload hx hb dL_law_1532 (lv_at hl 1 rfl) ?_
    refine mz_eqN hx hb 0 0 (tgt := 1539) dL_law_1534 (by decide) (by omega) (by omega) (fun _ => ?_) (fun c9 => absurd rfl c9)
    refine lv_iload hx hb dL_law_1539 (lv_at hl 1 rfl) ?_
    refine lv_if_ne (tgt := 1556) hx hb dL_law_1541 (by decide) (fun c9 => absurd rfl c9) (fun _ => ?_)
    refine lv_aload_n hx hb dL_law_1544 rfl (lv_at hl 5 rfl) ?_
    refine lv_iconst (v := 0) hx hb dL_law_1545 (by decide) ?_
    refine la_lld hx hb hE hPo dL_law_1546 ?_
    refine lv_iload hx hb dL_law_1547 (lv_at hl 0 rfl) ?_
    refine lv_i2l hx hb dL_law_1549 rfl ?_
    refine la_eqL hx hb (congrArg Int32.toInt64 heq) (tgt := 1556) dL_law_1550 dL_law_1551 (by decide) ?_
    refine lv_goto (tgt := 1642) hx hb dL_law_1556 (by decide) ?_
    refine W.widen (k := cl + 740) (n := sl + 3700) (by omega) (by omega) ?_
    exact K _ _ _ ⟨_, _, _, _, _, _, _, _, _, _, _, _, _, _, _, _, _, hR, hPd, hPo, hPm, hPg⟩ hS (lv_sub hl [2, 3, 4, 5, 6, 7] rfl)
  · obtain ⟨k, rfl⟩ : ∃ k9, k = k9 + 1 := ⟨k - 1, by omega⟩
    have hB : va_P E.1 vwCl ((dC E ad S zs rn dy bn cn tn) ++ [oL E o0 f0]) H1 := hB
    have hPd := fr_l hB
    have hPo := fr_r hB
    clear hPw hDw hFc
    generalize H1 = H at hPd hPo hPm hPg hS ⊢
    refine lv_istore (lv' := [(6, .int (nI (k + 1))), (0, .ref b), (1, .ref (ad 0)), (2, .ref (mm 0)), (3, .ref o0), (4, .ref d0), (5, .int (nI i))]) hx hb dL_law_1508 hl (by decide) rfl (fun ls hl => ?_)
    refine lv_aload_n hx hb dL_law_1510 rfl (lv_at hl 3 rfl) ?_
    refine lv_aload_n hx hb dL_law_1511 rfl (lv_at hl 1 rfl) ?_
    refine lv_iload hx hb dL_law_1512 (lv_at hl 6 rfl) ?_
    refine lv_iconst (v := 1) hx hb dL_law_1514 (by decide) ?_
    refine mz_addN hx hb i 1 dL_law_1515 ?_
    refine la_sld hx hb hX hbl hbA hS (i + 1) (by omega) hL dL_law_1516 ?_
    refine lv_aload_n hx hb dL_law_1517 rfl (lv_at hl 1 rfl) ?_
    refine lv_iload hx hb dL_law_1518 (lv_at hl 6 rfl) ?_
    refine lv_iconst (v := 2) hx hb dL_law_1520 (by decide) ?_
    refine mz_addN hx hb i 2 dL_law_1521 ?_
    refine la_sld hx hb hX hbl hbA hS (i + 2) (by omega) hL dL_law_1522 ?_
    have hDc : va_D (fun q : Nat => s.heap.size ≤ q) (mC E mm th dy rn cn tn NU WE AT zs BU AV LS LT) := d3 _ _ _ _ _ _ _ _ _ _ _ _ _
    have hFc := fr_free hDc hS hA
    refine va_calli (va_runV (As := [.int (xs (i + 1)), .int (xs (i + 2))]) (rest := []) ⟨hx, hb, hml, hown, hts⟩ (kX5_risk l E (mm 0) (mm 1) (mm 2) (mm 3) (mm 4) (mm 5) (mm 6) (mm 7) (mm 8) th dy rn cn tn NU WE AT zs BU AV LS LT (xs (i + 1)) (xs (i + 2)) H.size (by first | omega | assumption | exact hz) (by first | omega | assumption | exact hz) (by first | omega | assumption | exact hz)) (cwV 2 hts gL_law_X5_risk rfl rfl rfl (by decide +kernel) ⟨Nat.le_of_ble_eq_true rfl, Nat.le_of_ble_eq_true rfl⟩) ⟨fb_W, va_recv hE.1 hPm (ci := 5) (q0 := 0) rfl rfl, fun U hU hW => ⟨rfl, by rw [hU], by rw [hU]; exact hPm, hDc.weaken (fun _ _ _ _ => trivial), hE.warm hW⟩⟩ rfl rfl hl.1 rfl (lv_room (Nat.le_of_ble_eq_true rfl)) dL_law_1523 ⟨by show _ ≤ 601024; omega, by show _ ≤ 7293034; omega⟩) hS (fun q _ h => hFc q h) hFc (fun r1523 u t H1 locs ht hvm hw hB hz1 hk1 hS => ?_)
    rw [ht] at hB
    have hPd := ap_keep (a13 _ _ _ _ _ _ _ _ _ _ _ _ _ _ _ _ _ _ _ _).comm hPd hk1
    have hPo := ap_keep (a23 _ _ _ _ _ _ _ _ _ _ _ _ _ _).comm hPo hk1
    have hPg := ap_keep (a34 _ _ _ _ _ _ _ _ _ _ _ _ _ _) hPg hk1
    obtain ⟨hk5, hw⟩ := hw
    have e5 : u = k + 1 := hk5.trans hk9.symm
    subst e5
    have hPm : va_P E.1 vwCl (mC E mm (nI (k + 1)) dy rn cn tn NU WE AT zs BU AV LS LT) H1 := hB
    clear hDc hFc
    generalize H1 = H at hPd hPo hPm hPg hS ⊢
    refine lv_istore (lv' := [(7, .int r1523), (6, .int (nI (k + 1))), (0, .ref b), (1, .ref (ad 0)), (2, .ref (mm 0)), (3, .ref o0), (4, .ref d0), (5, .int (nI i))]) hx hb dL_law_1526 hl (by decide) rfl (fun ls hl => ?_)
    refine lv_aload_n hx hb dL_law_1528 rfl (lv_at hl 4 rfl) ?_
    have hPt : va_P E.1 vwCl [(mm 0, .inr (5, [.int (nI (k + 1)), .int (nI dy), .int (nI rn), .ref (mm 1), .ref (mm 2), .ref (mm 3), .ref (mm 4), .ref (mm 5), .int (nI cn), .ref (mm 6), .int (nI tn), .ref (mm 7), .ref (mm 8)]))] H := hPm.sub [0] rfl
    refine va_calli (va_runV (As := []) (rest := []) ⟨hx, hb, hml, hown, hts⟩ (kX5_thrown l E (mm 0) (mm 1) (mm 2) (mm 3) (mm 4) (mm 5) (mm 6) (mm 7) (mm 8) (nI (k + 1)) dy rn cn tn ) (cwV 0 hts gL_law_X5_thrown rfl rfl rfl (by decide +kernel) ⟨Nat.le_of_ble_eq_true rfl, Nat.le_of_ble_eq_true rfl⟩) ⟨fb_R, va_recv hE.1 hPm (ci := 5) (q0 := 0) rfl rfl, fun U hU hW => ⟨rfl, by rw [hU]; exact hPt, hE.warm hW⟩⟩ rfl rfl hl.1 rfl (lv_room (Nat.le_of_ble_eq_true rfl)) dL_law_1529 ⟨by show _ ≤ 601024; omega, by show _ ≤ 7293034; omega⟩) hS (fun q _ h => h.elim) (fun q h => h.elim) (fun r1529 u t H1 locs ht hvm hw hB hz1 hk1 hS => ?_)
    have hPd := hPd.ro hk1
    have hPo := hPo.ro hk1
    have hPm := hPm.ro hk1
    have hPg := hPg.ro hk1
    generalize H1 = H at hPd hPo hPm hPg hS ⊢
    subst hw
    refine lv_iload hx hb dL_law_1532 (lv_at hl 1 rfl) ?_
    refine mz_eqN hx hb (k + 1) (k + 1) (tgt := 1539) dL_law_1534 (by decide) (by omega) (by omega) (fun _ => ?_) (fun c9 => absurd rfl c9)
    refine lv_iload hx hb dL_law_1539 (lv_at hl 1 rfl) ?_
    refine mz_ifneN hx hb (k + 1) (tgt := 1556) dL_law_1541 (by decide) (by omega) (fun _ => ?_) (fun c9 => absurd c9 (by omega))
    refine lv_goto (tgt := 1642) hx hb dL_law_1556 (by decide) ?_
    refine W.widen (k := cl + 740) (n := sl + 3700) (by omega) (by omega) ?_
    exact K _ _ _ ⟨_, _, _, _, _, _, _, _, _, _, _, _, _, _, _, _, _, hR, hPd, hPo, hPm, hPg⟩ hS (lv_sub hl [2, 3, 4, 5, 6, 7] rfl)
set_option maxHeartbeats 4000000 in
set_option maxRecDepth 100000 in
theorem arm_worstLeg {p : Program} {e : Env} {s : State} {m : MethodId} {below : List Frame} {meth : Method} {c : Code} (l : Launch) (hlt : l.stackTraces = false) {b L : Nat} {xs : Nat → Int32} (hL : L ≤ 3072) (C0 : lw_At p s m meth c b L xs) {E : ev_T} {ad mm : Nat → Nat} {o0 d0 : Nat} (hE : ev_U E s) (hU9 : ex_U (fun q : Nat => s.heap.size ≤ q) s s.heap) (hLD : LD E ad mm o0 d0 (fun q : Nat => s.heap.size ≤ q)) {i cl sl : Nat} (hi : i + 6 ≤ L) (hcl : cl + 740 ≤ 601024) (hsl : sl + 3700 ≤ 7293034)
    (K : ∀ (H : Heap) (locs : List Loc) (ls : Array Slot), LX E ad mm o0 d0 H → va_S (fun q : Nat => s.heap.size ≤ q) s.heap H locs → lv_has ls 9 [(0, .ref b), (1, .ref (ad 0)), (2, .ref (mm 0)), (3, .ref o0), (4, .ref d0), (5, .int (nI i))] → W p l e room_1 s m #[Value.ref b] below meth c H locs (cl + 740) (sl + 3700) (lw_Z below #[Value.ref b] s) (F0 m 1642 ls []))
    {H : Heap} {locs : List Loc} {ls : Array Slot} (hX0 : LX E ad mm o0 d0 H) (hS : va_S (fun q : Nat => s.heap.size ≤ q) s.heap H locs) (hl : lv_has ls 9 [(0, .ref b), (1, .ref (ad 0)), (2, .ref (mm 0)), (3, .ref o0), (4, .ref d0), (5, .int (nI i))]) : W p l e room_1 s m #[Value.ref b] below meth c H locs cl sl (lw_Z below #[Value.ref b] s) (F0 m 1559 ls []) := by
  obtain ⟨hx, hb, hr, hml, hown, hts0, hX, hbl, hlocks, hgv⟩ := id C0
  have hts : ∀ w ∈ wsL_law, w.before #[Value.ref b] s = true := fun w h => hts0 w (wsL_law_in w h)
  have hown : s.vm.findClass RL = some m.cls := hown
  obtain ⟨S, zs, rn, dy, bn, cn, tn, th, NU, WE, AT, BU, AV, LS, LT, f0, g0, hR, hPd, hPo, hPm, hPg⟩ := hX0
  obtain ⟨d1, d2, d3, d4, a12, a13, a14, a23, a24, a34⟩ := hLD
  have hA : ∀ q : Nat, s.heap.size ≤ q → (fun q : Nat => s.heap.size ≤ q) q := fun _ h => h
  have hbA : ¬ (fun q : Nat => s.heap.size ≤ q) b := Nat.not_le.mpr hbl
  obtain ⟨h6, h60, h200, h20⟩ := hR.1
  have hz := hR.hz
  refine lv_aload_n hx hb dL_law_1559 rfl (lv_at hl 1 rfl) ?_
  refine lv_aload_n hx hb dL_law_1560 rfl (lv_at hl 0 rfl) ?_
  refine lv_iload hx hb dL_law_1561 (lv_at hl 5 rfl) ?_
  refine lv_iconst (v := 1) hx hb dL_law_1563 (by decide) ?_
  refine mz_addN hx hb i 1 dL_law_1564 ?_
  refine la_sld hx hb hX hbl hbA hS (i + 1) (by omega) hL dL_law_1565 ?_
  refine lv_aload_n hx hb dL_law_1566 rfl (lv_at hl 3 rfl) ?_
  have hPw : va_P E.1 vwCl ((dC E ad S zs rn dy bn cn tn) ++ [oL E o0 f0]) H := hPd.app hPo
  have hDw : va_D (fun q : Nat => s.heap.size ≤ q) ((dC E ad S zs rn dy bn cn tn) ++ [oL E o0 f0]) := (d1 _ _ _ _ _ _ _).app (d2 _) (a12 _ _ _ _ _ _ _ _)
  have hFc := fr_free hDw hS hA
  refine va_calli (vx_runSW (As := [.ref (ad 0), .int (xs (i + 1)), .ref o0]) (rest := []) ⟨hx, hb, hml, hown, hts⟩ (kL_worstLeg l hlt E ad S zs rn dy bn cn tn (xs (i + 1)) o0 f0 H.size (by first | omega | assumption | exact h60 | exact h6 | exact h20 | exact h200) (by first | omega | assumption | exact h60 | exact h6 | exact h20 | exact h200) (by first | omega | assumption | exact h60 | exact h6 | exact h20 | exact h200)) (vx_cwSW 3 hts gL_law_L_worstLeg rfl rfl rfl (by decide +kernel) ⟨Nat.le_of_ble_eq_true rfl, Nat.le_of_ble_eq_true rfl⟩) ⟨fb_Y, fun U hU hW => ⟨rfl, by rw [hU], by rw [hU]; exact hPw, hDw.weaken (fun _ _ _ _ => trivial), hE.warm hW, hU9.to hS hFc hU hW⟩⟩ rfl rfl hl.1 rfl (lv_room (Nat.le_of_ble_eq_true rfl)) dL_law_1567 ⟨by show _ ≤ 601024; omega, by show _ ≤ 7293034; omega⟩) hS (fun q _ h => hFc q h) hFc (fun r9 k t H1 locs ht hvm hw hB hz1 hk1 hS => ?_)
  obtain ⟨hr9, hk9⟩ := hw
  subst hr9
  rw [ht] at hB
  have hPm := ap_keep (ap.both (a13 _ _ _ _ _ _ _ _ _ _ _ _ _ _ _ _ _ _ _ _) (a23 _ _ _ _ _ _ _ _ _ _ _ _ _ _)) hPm hk1
  have hPg := ap_keep (ap.both (a14 _ _ _ _ _ _ _ _) (a24 _ _)) hPg hk1
  have hle9 := tReg_le (xs (i + 1)) rn
  rcases Nat.eq_zero_or_pos k with hk0 | hk0
  · subst hk0
    have hB : va_P E.1 vwCl ((dC E ad S zs rn dy bn cn tn) ++ [oL E o0 (vp_updL f0 0 (Int32.toInt64 ((wsF (levA (S (3 + 2 * (Int32.toNatClampNeg (xs (i + 1)))))) (corD (S (3 + 2 * (Int32.toNatClampNeg (xs (i + 1)))))) (S 25) (S 26) tn).1)))]) H1 := hB
    have hPd := fr_l hB
    have hPo := fr_r hB
    clear hPw hDw hFc
    generalize H1 = H at hPd hPo hPm hPg hS ⊢
    refine lv_istore (lv' := [(6, .int 0), (0, .ref b), (1, .ref (ad 0)), (2, .ref (mm 0)), (3, .ref o0), (4, .ref d0), (5, .int (nI i))]) hx hb dL_law_1570 hl (by decide) rfl (fun ls hl => ?_)
    refine lv_aload_n hx hb dL_law_1572 rfl (lv_at hl 3 rfl) ?_
    refine lv_aload_n hx hb dL_law_1573 rfl (lv_at hl 1 rfl) ?_
    refine lv_iload hx hb dL_law_1574 (lv_at hl 6 rfl) ?_
    refine lv_iconst (v := 1) hx hb dL_law_1576 (by decide) ?_
    refine mz_addN hx hb i 1 dL_law_1577 ?_
    refine la_sld hx hb hX hbl hbA hS (i + 1) (by omega) hL dL_law_1578 ?_
    have hDc : va_D (fun q : Nat => s.heap.size ≤ q) (mC E mm th dy rn cn tn NU WE AT zs BU AV LS LT) := d3 _ _ _ _ _ _ _ _ _ _ _ _ _
    have hFc := fr_free hDc hS hA
    refine va_calli (va_runV (As := [.int (xs (i + 1))]) (rest := []) ⟨hx, hb, hml, hown, hts⟩ (kX5_worstLeg l E (mm 0) (mm 1) (mm 2) (mm 3) (mm 4) (mm 5) (mm 6) (mm 7) (mm 8) th dy rn cn tn NU WE AT zs BU AV LS LT (xs (i + 1)) H.size (by first | omega | assumption | exact hz) (by first | omega | assumption | exact hz) (by first | omega | assumption | exact hz)) (cwV 1 hts gL_law_X5_worstLeg rfl rfl rfl (by decide +kernel) ⟨Nat.le_of_ble_eq_true rfl, Nat.le_of_ble_eq_true rfl⟩) ⟨fb_W, va_recv hE.1 hPm (ci := 5) (q0 := 0) rfl rfl, fun U hU hW => ⟨rfl, by rw [hU], by rw [hU]; exact hPm, hDc.weaken (fun _ _ _ _ => trivial), hE.warm hW⟩⟩ rfl rfl hl.1 rfl (lv_room (Nat.le_of_ble_eq_true rfl)) dL_law_1579 ⟨by show _ ≤ 601024; omega, by show _ ≤ 7293034; omega⟩) hS (fun q _ h => hFc q h) hFc (fun r1579 u t H1 locs ht hvm hw hB hz1 hk1 hS => ?_)
    rw [ht] at hB
    have hPd := ap_keep (a13 _ _ _ _ _ _ _ _ _ _ _ _ _ _ _ _ _ _ _ _).comm hPd hk1
    have hPo := ap_keep (a23 _ _ _ _ _ _ _ _ _ _ _ _ _ _).comm hPo hk1
    have hPg := ap_keep (a34 _ _ _ _ _ _ _ _ _ _ _ _ _ _) hPg hk1
    obtain ⟨hk5, hw⟩ := hw
    have e5 : u = 0 := hk5.trans hk9.symm
    subst e5
    have hw := hw rfl
    have hPm : va_P E.1 vwCl (mC E mm 0 dy rn cn tn NU WE AT zs BU AV LS LT) H1 := hB
    clear hDc hFc
    generalize H1 = H at hPd hPo hPm hPg hS ⊢
    subst hw
    have heq := op_worst hR (xs (i + 1)) hk9
    refine lv_istore (lv' := [(7, .int (wxM NU (Int32.toNatClampNeg (xs (i + 1))) LS LT tn)), (6, .int 0), (0, .ref b), (1, .ref (ad 0)), (2, .ref (mm 0)), (3, .ref o0), (4, .ref d0), (5, .int (nI i))]) hx hb dL_law_1582 hl (by decide) rfl (fun ls hl => ?_)
    refine lv_aload_n hx hb dL_law_1584 rfl (lv_at hl 4 rfl) ?_
    have hPt : va_P E.1 vwCl [(mm 0, .inr (5, [.int 0, .int (nI dy), .int (nI rn), .ref (mm 1), .ref (mm 2), .ref (mm 3), .ref (mm 4), .ref (mm 5), .int (nI cn), .ref (mm 6), .int (nI tn), .ref (mm 7), .ref (mm 8)]))] H := hPm.sub [0] rfl
    refine va_calli (va_runV (As := []) (rest := []) ⟨hx, hb, hml, hown, hts⟩ (kX5_thrown l E (mm 0) (mm 1) (mm 2) (mm 3) (mm 4) (mm 5) (mm 6) (mm 7) (mm 8) 0 dy rn cn tn ) (cwV 0 hts gL_law_X5_thrown rfl rfl rfl (by decide +kernel) ⟨Nat.le_of_ble_eq_true rfl, Nat.le_of_ble_eq_true rfl⟩) ⟨fb_R, va_recv hE.1 hPm (ci := 5) (q0 := 0) rfl rfl, fun U hU hW => ⟨rfl, by rw [hU]; exact hPt, hE.warm hW⟩⟩ rfl rfl hl.1 rfl (lv_room (Nat.le_of_ble_eq_true rfl)) dL_law_1585 ⟨by show _ ≤ 601024; omega, by show _ ≤ 7293034; omega⟩) hS (fun q _ h => h.elim) (fun q h => h.elim) (fun r1585 u t H1 locs ht hvm hw hB hz1 hk1 hS => ?_)
    have hPd := hPd.ro hk1
    have hPo := hPo.ro hk1
    have hPm := hPm.ro hk1
    have hPg := hPg.ro hk1
    generalize H1 = H at hPd hPo hPm hPg hS ⊢
    subst hw
    refine lv_iload hx hb dL_law_1588 (lv_at hl 1 rfl) ?_
    refine mz_eqN hx hb 0 0 (tgt := 1595) dL_law_1590 (by decide) (by omega) (by omega) (fun _ => ?_) (fun c9 => absurd rfl c9)
    refine lv_iload hx hb dL_law_1595 (lv_at hl 1 rfl) ?_
    refine lv_if_ne (tgt := 1612) hx hb dL_law_1597 (by decide) (fun c9 => absurd rfl c9) (fun _ => ?_)
    refine lv_aload_n hx hb dL_law_1600 rfl (lv_at hl 5 rfl) ?_
    refine lv_iconst (v := 0) hx hb dL_law_1601 (by decide) ?_
    refine la_lld hx hb hE hPo dL_law_1602 ?_
    refine lv_iload hx hb dL_law_1603 (lv_at hl 0 rfl) ?_
    refine lv_i2l hx hb dL_law_1605 rfl ?_
    refine la_eqL hx hb (congrArg Int32.toInt64 heq) (tgt := 1612) dL_law_1606 dL_law_1607 (by decide) ?_
    refine lv_goto (tgt := 1642) hx hb dL_law_1612 (by decide) ?_
    refine W.widen (k := cl + 740) (n := sl + 3700) (by omega) (by omega) ?_
    exact K _ _ _ ⟨_, _, _, _, _, _, _, _, _, _, _, _, _, _, _, _, _, hR, hPd, hPo, hPm, hPg⟩ hS (lv_sub hl [2, 3, 4, 5, 6, 7] rfl)
  · obtain ⟨k, rfl⟩ : ∃ k9, k = k9 + 1 := ⟨k - 1, by omega⟩
    have hB : va_P E.1 vwCl ((dC E ad S zs rn dy bn cn tn) ++ [oL E o0 f0]) H1 := hB
    have hPd := fr_l hB
    have hPo := fr_r hB
    clear hPw hDw hFc
    generalize H1 = H at hPd hPo hPm hPg hS ⊢
    refine lv_istore (lv' := [(6, .int (nI (k + 1))), (0, .ref b), (1, .ref (ad 0)), (2, .ref (mm 0)), (3, .ref o0), (4, .ref d0), (5, .int (nI i))]) hx hb dL_law_1570 hl (by decide) rfl (fun ls hl => ?_)
    refine lv_aload_n hx hb dL_law_1572 rfl (lv_at hl 3 rfl) ?_
    refine lv_aload_n hx hb dL_law_1573 rfl (lv_at hl 1 rfl) ?_
    refine lv_iload hx hb dL_law_1574 (lv_at hl 6 rfl) ?_
    refine lv_iconst (v := 1) hx hb dL_law_1576 (by decide) ?_
    refine mz_addN hx hb i 1 dL_law_1577 ?_
    refine la_sld hx hb hX hbl hbA hS (i + 1) (by omega) hL dL_law_1578 ?_
    have hDc : va_D (fun q : Nat => s.heap.size ≤ q) (mC E mm th dy rn cn tn NU WE AT zs BU AV LS LT) := d3 _ _ _ _ _ _ _ _ _ _ _ _ _
    have hFc := fr_free hDc hS hA
    refine va_calli (va_runV (As := [.int (xs (i + 1))]) (rest := []) ⟨hx, hb, hml, hown, hts⟩ (kX5_worstLeg l E (mm 0) (mm 1) (mm 2) (mm 3) (mm 4) (mm 5) (mm 6) (mm 7) (mm 8) th dy rn cn tn NU WE AT zs BU AV LS LT (xs (i + 1)) H.size (by first | omega | assumption | exact hz) (by first | omega | assumption | exact hz) (by first | omega | assumption | exact hz)) (cwV 1 hts gL_law_X5_worstLeg rfl rfl rfl (by decide +kernel) ⟨Nat.le_of_ble_eq_true rfl, Nat.le_of_ble_eq_true rfl⟩) ⟨fb_W, va_recv hE.1 hPm (ci := 5) (q0 := 0) rfl rfl, fun U hU hW => ⟨rfl, by rw [hU], by rw [hU]; exact hPm, hDc.weaken (fun _ _ _ _ => trivial), hE.warm hW⟩⟩ rfl rfl hl.1 rfl (lv_room (Nat.le_of_ble_eq_true rfl)) dL_law_1579 ⟨by show _ ≤ 601024; omega, by show _ ≤ 7293034; omega⟩) hS (fun q _ h => hFc q h) hFc (fun r1579 u t H1 locs ht hvm hw hB hz1 hk1 hS => ?_)
    rw [ht] at hB
    have hPd := ap_keep (a13 _ _ _ _ _ _ _ _ _ _ _ _ _ _ _ _ _ _ _ _).comm hPd hk1
    have hPo := ap_keep (a23 _ _ _ _ _ _ _ _ _ _ _ _ _ _).comm hPo hk1
    have hPg := ap_keep (a34 _ _ _ _ _ _ _ _ _ _ _ _ _ _) hPg hk1
    obtain ⟨hk5, hw⟩ := hw
    have e5 : u = k + 1 := hk5.trans hk9.symm
    subst e5
    have hPm : va_P E.1 vwCl (mC E mm (nI (k + 1)) dy rn cn tn NU WE AT zs BU AV LS LT) H1 := hB
    clear hDc hFc
    generalize H1 = H at hPd hPo hPm hPg hS ⊢
    refine lv_istore (lv' := [(7, .int r1579), (6, .int (nI (k + 1))), (0, .ref b), (1, .ref (ad 0)), (2, .ref (mm 0)), (3, .ref o0), (4, .ref d0), (5, .int (nI i))]) hx hb dL_law_1582 hl (by decide) rfl (fun ls hl => ?_)
    refine lv_aload_n hx hb dL_law_1584 rfl (lv_at hl 4 rfl) ?_
    have hPt : va_P E.1 vwCl [(mm 0, .inr (5, [.int (nI (k + 1)), .int (nI dy), .int (nI rn), .ref (mm 1), .ref (mm 2), .ref (mm 3), .ref (mm 4), .ref (mm 5), .int (nI cn), .ref (mm 6), .int (nI tn), .ref (mm 7), .ref (mm 8)]))] H := hPm.sub [0] rfl
    refine va_calli (va_runV (As := []) (rest := []) ⟨hx, hb, hml, hown, hts⟩ (kX5_thrown l E (mm 0) (mm 1) (mm 2) (mm 3) (mm 4) (mm 5) (mm 6) (mm 7) (mm 8) (nI (k + 1)) dy rn cn tn ) (cwV 0 hts gL_law_X5_thrown rfl rfl rfl (by decide +kernel) ⟨Nat.le_of_ble_eq_true rfl, Nat.le_of_ble_eq_true rfl⟩) ⟨fb_R, va_recv hE.1 hPm (ci := 5) (q0 := 0) rfl rfl, fun U hU hW => ⟨rfl, by rw [hU]; exact hPt, hE.warm hW⟩⟩ rfl rfl hl.1 rfl (lv_room (Nat.le_of_ble_eq_true rfl)) dL_law_1585 ⟨by show _ ≤ 601024; omega, by show _ ≤ 7293034; omega⟩) hS (fun q _ h => h.elim) (fun q h => h.elim) (fun r1585 u t H1 locs ht hvm hw hB hz1 hk1 hS => ?_)
    have hPd := hPd.ro hk1
    have hPo := hPo.ro hk1
    have hPm := hPm.ro hk1
    have hPg := hPg.ro hk1
    generalize H1 = H at hPd hPo hPm hPg hS ⊢
    subst hw
    refine lv_iload hx hb dL_law_1588 (lv_at hl 1 rfl) ?_
    refine mz_eqN hx hb (k + 1) (k + 1) (tgt := 1595) dL_law_1590 (by decide) (by omega) (by omega) (fun _ => ?_) (fun c9 => absurd rfl c9)
    refine lv_iload hx hb dL_law_1595 (lv_at hl 1 rfl) ?_
    refine mz_ifneN hx hb (k + 1) (tgt := 1612) dL_law_1597 (by decide) (by omega) (fun _ => ?_) (fun c9 => absurd c9 (by omega))
    refine lv_goto (tgt := 1642) hx hb dL_law_1612 (by decide) ?_
    refine W.widen (k := cl + 740) (n := sl + 3700) (by omega) (by omega) ?_
    exact K _ _ _ ⟨_, _, _, _, _, _, _, _, _, _, _, _, _, _, _, _, _, hR, hPd, hPo, hPm, hPg⟩ hS (lv_sub hl [2, 3, 4, 5, 6, 7] rfl)
set_option maxHeartbeats 4000000 in
set_option maxRecDepth 100000 in
theorem arm_bestRegion {p : Program} {e : Env} {s : State} {m : MethodId} {below : List Frame} {meth : Method} {c : Code} (l : Launch) (hlt : l.stackTraces = false) {b L : Nat} {xs : Nat → Int32} (hL : L ≤ 3072) (C0 : lw_At p s m meth c b L xs) {E : ev_T} {ad mm : Nat → Nat} {o0 d0 : Nat} (hE : ev_U E s) (hU9 : ex_U (fun q : Nat => s.heap.size ≤ q) s s.heap) (hLD : LD E ad mm o0 d0 (fun q : Nat => s.heap.size ≤ q)) {i cl sl : Nat} (hi : i + 6 ≤ L) (hcl : cl + 740 ≤ 601024) (hsl : sl + 3700 ≤ 7293034)
    (K : ∀ (H : Heap) (locs : List Loc) (ls : Array Slot), LX E ad mm o0 d0 H → va_S (fun q : Nat => s.heap.size ≤ q) s.heap H locs → lv_has ls 9 [(0, .ref b), (1, .ref (ad 0)), (2, .ref (mm 0)), (3, .ref o0), (4, .ref d0), (5, .int (nI i))] → W p l e room_1 s m #[Value.ref b] below meth c H locs (cl + 740) (sl + 3700) (lw_Z below #[Value.ref b] s) (F0 m 1642 ls []))
    {H : Heap} {locs : List Loc} {ls : Array Slot} (hX0 : LX E ad mm o0 d0 H) (hS : va_S (fun q : Nat => s.heap.size ≤ q) s.heap H locs) (hl : lv_has ls 9 [(0, .ref b), (1, .ref (ad 0)), (2, .ref (mm 0)), (3, .ref o0), (4, .ref d0), (5, .int (nI i))]) : W p l e room_1 s m #[Value.ref b] below meth c H locs cl sl (lw_Z below #[Value.ref b] s) (F0 m 1615 ls []) := by
  obtain ⟨hx, hb, hr, hml, hown, hts0, hX, hbl, hlocks, hgv⟩ := id C0
  have hts : ∀ w ∈ wsL_law, w.before #[Value.ref b] s = true := fun w h => hts0 w (wsL_law_in w h)
  have hown : s.vm.findClass RL = some m.cls := hown
  obtain ⟨S, zs, rn, dy, bn, cn, tn, th, NU, WE, AT, BU, AV, LS, LT, f0, g0, hR, hPd, hPo, hPm, hPg⟩ := hX0
  obtain ⟨d1, d2, d3, d4, a12, a13, a14, a23, a24, a34⟩ := hLD
  have hA : ∀ q : Nat, s.heap.size ≤ q → (fun q : Nat => s.heap.size ≤ q) q := fun _ h => h
  have hbA : ¬ (fun q : Nat => s.heap.size ≤ q) b := Nat.not_le.mpr hbl
  obtain ⟨h6, h60, h200, h20⟩ := hR.1
  have hz := hR.hz
  refine lv_aload_n hx hb dL_law_1615 rfl (lv_at hl 1 rfl) ?_
  refine va_calli (va_runV (As := []) (rest := []) ⟨hx, hb, hml, hown, hts⟩ (kX4_bestRegion l E ad S zs rn dy bn cn tn (by first | omega | assumption | exact hz) (by first | omega | assumption | exact hz) (by first | omega | assumption | exact hz)) (cwV 0 hts gL_law_X4_bestRegion rfl rfl rfl (by decide +kernel) ⟨Nat.le_of_ble_eq_true rfl, Nat.le_of_ble_eq_true rfl⟩) ⟨fb_R, va_recv hE.1 hPd (ci := 4) (q0 := 0) rfl rfl, fun U hU hW => ⟨rfl, by rw [hU]; exact hPd, hE.warm hW⟩⟩ rfl rfl hl.1 rfl (lv_room (Nat.le_of_ble_eq_true rfl)) dL_law_1616 ⟨by show _ ≤ 601024; omega, by show _ ≤ 7293034; omega⟩) hS (fun q _ h => h.elim) (fun q h => h.elim) (fun r1616 u t H1 locs ht hvm hw hB hz1 hk1 hS => ?_)
  have hPd := hPd.ro hk1
  have hPo := hPo.ro hk1
  have hPm := hPm.ro hk1
  have hPg := hPg.ro hk1
  generalize H1 = H at hPd hPo hPm hPg hS ⊢
  subst hw
  refine lv_aload_n hx hb dL_law_1619 rfl (lv_at hl 2 rfl) ?_
  have hDc : va_D (fun q : Nat => s.heap.size ≤ q) (mC E mm th dy rn cn tn NU WE AT zs BU AV LS LT) := d3 _ _ _ _ _ _ _ _ _ _ _ _ _
  have hFc := fr_free hDc hS hA
  refine va_calli (va_runV (As := []) (rest := [.int (if tn = 0 then -1 else (brF S tn rn).1)]) ⟨hx, hb, hml, hown, hts⟩ (kX5_bestRegion l E (mm 0) (mm 1) (mm 2) (mm 3) (mm 4) (mm 5) (mm 6) (mm 7) (mm 8) th dy rn cn tn NU WE AT zs BU AV LS LT H.size (by first | omega | assumption | exact hz) (by first | omega | assumption | exact hz) (by first | omega | assumption | exact hz)) (cwV 0 hts gL_law_X5_bestRegion rfl rfl rfl (by decide +kernel) ⟨Nat.le_of_ble_eq_true rfl, Nat.le_of_ble_eq_true rfl⟩) ⟨fb_W, va_recv hE.1 hPm (ci := 5) (q0 := 0) rfl rfl, fun U hU hW => ⟨rfl, by rw [hU], by rw [hU]; exact hPm, hDc.weaken (fun _ _ _ _ => trivial), hE.warm hW⟩⟩ rfl rfl hl.1 rfl (lv_room (Nat.le_of_ble_eq_true rfl)) dL_law_1620 ⟨by show _ ≤ 601024; omega, by show _ ≤ 7293034; omega⟩) hS (fun q _ h => hFc q h) hFc (fun r1620 u t H1 locs ht hvm hw hB hz1 hk1 hS => ?_)
  rw [ht] at hB
  have hPd := ap_keep (a13 _ _ _ _ _ _ _ _ _ _ _ _ _ _ _ _ _ _ _ _).comm hPd hk1
  have hPo := ap_keep (a23 _ _ _ _ _ _ _ _ _ _ _ _ _ _).comm hPo hk1
  have hPg := ap_keep (a34 _ _ _ _ _ _ _ _ _ _ _ _ _ _) hPg hk1
  have hPm : va_P E.1 vwCl (mC E mm 0 dy rn cn tn NU WE AT zs BU AV LS LT) H1 := hB
  clear hDc hFc
  generalize H1 = H at hPd hPo hPm hPg hS ⊢
  subst hw
  refine lv_icmp_eq (tgt := 1642) hx hb dL_law_1623 (by decide) (fun _ => ?_) (fun c9 => absurd (op_best hR) c9)
  refine W.widen (k := cl + 740) (n := sl + 3700) (by omega) (by omega) ?_
  exact K _ _ _ ⟨_, _, _, _, _, _, _, _, _, _, _, _, _, _, _, _, _, hR, hPd, hPo, hPm, hPg⟩ hS (lv_sub hl [0, 1, 2, 3, 4, 5] rfl)
set_option maxHeartbeats 4000000 in
set_option maxRecDepth 100000 in
theorem arm_digest {p : Program} {e : Env} {s : State} {m : MethodId} {below : List Frame} {meth : Method} {c : Code} (l : Launch) (hlt : l.stackTraces = false) {b L : Nat} {xs : Nat → Int32} (hL : L ≤ 3072) (C0 : lw_At p s m meth c b L xs) {E : ev_T} {ad mm : Nat → Nat} {o0 d0 : Nat} (hE : ev_U E s) (hU9 : ex_U (fun q : Nat => s.heap.size ≤ q) s s.heap) (hLD : LD E ad mm o0 d0 (fun q : Nat => s.heap.size ≤ q)) {i cl sl : Nat} (hi : i + 6 ≤ L) (hcl : cl + 740 ≤ 601024) (hsl : sl + 3700 ≤ 7293034)
    (K : ∀ (H : Heap) (locs : List Loc) (ls : Array Slot), LX E ad mm o0 d0 H → va_S (fun q : Nat => s.heap.size ≤ q) s.heap H locs → lv_has ls 9 [(0, .ref b), (1, .ref (ad 0)), (2, .ref (mm 0)), (3, .ref o0), (4, .ref d0), (5, .int (nI i))] → W p l e room_1 s m #[Value.ref b] below meth c H locs (cl + 740) (sl + 3700) (lw_Z below #[Value.ref b] s) (F0 m 1642 ls []))
    {H : Heap} {locs : List Loc} {ls : Array Slot} (hX0 : LX E ad mm o0 d0 H) (hS : va_S (fun q : Nat => s.heap.size ≤ q) s.heap H locs) (hl : lv_has ls 9 [(0, .ref b), (1, .ref (ad 0)), (2, .ref (mm 0)), (3, .ref o0), (4, .ref d0), (5, .int (nI i))]) : W p l e room_1 s m #[Value.ref b] below meth c H locs cl sl (lw_Z below #[Value.ref b] s) (F0 m 1628 ls []) := by
  obtain ⟨hx, hb, hr, hml, hown, hts0, hX, hbl, hlocks, hgv⟩ := id C0
  have hts : ∀ w ∈ wsL_law, w.before #[Value.ref b] s = true := fun w h => hts0 w (wsL_law_in w h)
  have hown : s.vm.findClass RL = some m.cls := hown
  obtain ⟨S, zs, rn, dy, bn, cn, tn, th, NU, WE, AT, BU, AV, LS, LT, f0, g0, hR, hPd, hPo, hPm, hPg⟩ := hX0
  obtain ⟨d1, d2, d3, d4, a12, a13, a14, a23, a24, a34⟩ := hLD
  have hA : ∀ q : Nat, s.heap.size ≤ q → (fun q : Nat => s.heap.size ≤ q) q := fun _ h => h
  have hbA : ¬ (fun q : Nat => s.heap.size ≤ q) b := Nat.not_le.mpr hbl
  obtain ⟨h6, h60, h200, h20⟩ := hR.1
  have hz := hR.hz
  refine lv_aload_n hx hb dL_law_1628 rfl (lv_at hl 1 rfl) ?_
  refine va_calll (va_runV (As := []) (rest := []) ⟨hx, hb, hml, hown, hts⟩ (kX4_digest l E ad S zs rn dy bn cn tn (by first | omega | assumption | exact hz) (by first | omega | assumption | exact hz) (by first | omega | assumption | exact hz) (fun k9 _ => hR.2.1 k9) (by first | omega | assumption | exact hz)) (cwV 0 hts gL_law_X4_digest rfl rfl rfl (by decide +kernel) ⟨Nat.le_of_ble_eq_true rfl, Nat.le_of_ble_eq_true rfl⟩) ⟨fb_R, va_recv hE.1 hPd (ci := 4) (q0 := 0) rfl rfl, fun U hU hW => ⟨rfl, by rw [hU]; exact hPd, hE.warm hW⟩⟩ rfl rfl hl.1 rfl (lv_room (Nat.le_of_ble_eq_true rfl)) dL_law_1629 ⟨by show _ ≤ 601024; omega, by show _ ≤ 7293034; omega⟩) hS (fun q _ h => h.elim) (fun q h => h.elim) (fun r1629 u t H1 locs ht hvm hw hB hz1 hk1 hS => ?_)
  have hPd := hPd.ro hk1
  have hPo := hPo.ro hk1
  have hPm := hPm.ro hk1
  have hPg := hPg.ro hk1
  generalize H1 = H at hPd hPo hPm hPg hS ⊢
  subst hw
  refine lv_aload_n hx hb dL_law_1632 rfl (lv_at hl 2 rfl) ?_
  have hDc : va_D (fun q : Nat => s.heap.size ≤ q) (mC E mm th dy rn cn tn NU WE AT zs BU AV LS LT) := d3 _ _ _ _ _ _ _ _ _ _ _ _ _
  have hFc := fr_free hDc hS hA
  refine va_calll (va_runV (As := []) (rest := [.long (dgD S zs rn dy cn tn)]) ⟨hx, hb, hml, hown, hts⟩ (kX5_digest l E (mm 0) (mm 1) (mm 2) (mm 3) (mm 4) (mm 5) (mm 6) (mm 7) (mm 8) th dy rn cn tn NU WE AT zs BU AV LS LT H.size (by first | omega | assumption | exact hz) (by first | omega | assumption | exact hz) (by first | omega | assumption | exact hz) (by first | omega | assumption | exact hz) (by first | omega | assumption | exact hz)) (cwV 0 hts gL_law_X5_digest rfl rfl rfl (by decide +kernel) ⟨Nat.le_of_ble_eq_true rfl, Nat.le_of_ble_eq_true rfl⟩) ⟨fb_W, va_recv hE.1 hPm (ci := 5) (q0 := 0) rfl rfl, fun U hU hW => ⟨rfl, by rw [hU], by rw [hU]; exact hPm, hDc.weaken (fun _ _ _ _ => trivial), hE.warm hW⟩⟩ rfl rfl hl.1 rfl (lv_room (Nat.le_of_ble_eq_true rfl)) dL_law_1633 ⟨by show _ ≤ 601024; omega, by show _ ≤ 7293034; omega⟩) hS (fun q _ h => hFc q h) hFc (fun r1633 u t H1 locs ht hvm hw hB hz1 hk1 hS => ?_)
  rw [ht] at hB
  have hPd := ap_keep (a13 _ _ _ _ _ _ _ _ _ _ _ _ _ _ _ _ _ _ _ _).comm hPd hk1
  have hPo := ap_keep (a23 _ _ _ _ _ _ _ _ _ _ _ _ _ _).comm hPo hk1
  have hPg := ap_keep (a34 _ _ _ _ _ _ _ _ _ _ _ _ _ _) hPg hk1
  have hPm : va_P E.1 vwCl (mC E mm 0 dy rn cn tn NU WE AT zs BU AV LS LT) H1 := hB
  clear hDc hFc
  generalize H1 = H at hPd hPo hPm hPg hS ⊢
  subst hw
  refine la_eqL hx hb (op_digest hR) (tgt := 1642) dL_law_1636 dL_law_1637 (by decide) ?_
  refine W.widen (k := cl + 740) (n := sl + 3700) (by omega) (by omega) ?_
  exact K _ _ _ ⟨_, _, _, _, _, _, _, _, _, _, _, _, _, _, _, _, _, hR, hPd, hPo, hPm, hPg⟩ hS (lv_sub hl [0, 1, 2, 3, 4, 5] rfl)
