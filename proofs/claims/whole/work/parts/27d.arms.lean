set_option maxHeartbeats 4000000 in
set_option maxRecDepth 100000 in
theorem arm_see {p : Program} {e : Env} {s : State} {m : MethodId} {below : List Frame} {meth : Method} {c : Code} (l : Launch) (hlt : l.stackTraces = false) {b L : Nat} {xs : Nat → Int32} (hL : L ≤ 3072) (C0 : lw_At p s m meth c b L xs) {E : ev_T} {ad mm : Nat → Nat} {o0 d0 : Nat} (hE : ev_U E s) (hU9 : ex_U (fun q : Nat => s.heap.size ≤ q) s s.heap) (hLD : LD E ad mm o0 d0 (fun q : Nat => s.heap.size ≤ q)) {i cl sl : Nat} (hi : i + 6 ≤ L) (hcl : cl + 740 ≤ 601024) (hsl : sl + 3700 ≤ 7293034)
    (K : ∀ (H : Heap) (locs : List Loc) (ls : Array Slot), LX E ad mm o0 d0 H → va_S (fun q : Nat => s.heap.size ≤ q) s.heap H locs → lv_has ls 9 [(0, .ref b), (1, .ref (ad 0)), (2, .ref (mm 0)), (3, .ref o0), (4, .ref d0), (5, .int (nI i))] → W p l e room_1 s m #[Value.ref b] below meth c H locs (cl + 740) (sl + 3700) (lw_Z below #[Value.ref b] s) (F0 m 1642 ls []))
    {H : Heap} {locs : List Loc} {ls : Array Slot} (hX0 : LX E ad mm o0 d0 H) (hS : va_S (fun q : Nat => s.heap.size ≤ q) s.heap H locs) (hl : lv_has ls 9 [(0, .ref b), (1, .ref (ad 0)), (2, .ref (mm 0)), (3, .ref o0), (4, .ref d0), (5, .int (nI i))]) : W p l e room_1 s m #[Value.ref b] below meth c H locs cl sl (lw_Z below #[Value.ref b] s) (F0 m 1129 ls []) := by
  obtain ⟨hx, hb, hr, hml, hown, hts0, hX, hbl, hlocks, hgv⟩ := id C0
  have hts : ∀ w ∈ wsL_law, w.before #[Value.ref b] s = true := fun w h => hts0 w (wsL_law_in w h)
  have hown : s.vm.findClass RL = some m.cls := hown
  obtain ⟨S, zs, rn, dy, bn, cn, tn, th, NU, WE, AT, BU, AV, LS, LT, f0, g0, hR, hPd, hPo, hPm, hPg⟩ := hX0
  obtain ⟨d1, d2, d3, d4, a12, a13, a14, a23, a24, a34⟩ := hLD
  have hA : ∀ q : Nat, s.heap.size ≤ q → (fun q : Nat => s.heap.size ≤ q) q := fun _ h => h
  have hbA : ¬ (fun q : Nat => s.heap.size ≤ q) b := Nat.not_le.mpr hbl
  obtain ⟨h6, h60, h200, h20⟩ := hR.1
  have hz := hR.hz
  refine lv_aload_n hx hb dL_law_1129 rfl (lv_at hl 1 rfl) ?_
  refine lv_aload_n hx hb dL_law_1130 rfl (lv_at hl 0 rfl) ?_
  refine lv_iload hx hb dL_law_1131 (lv_at hl 5 rfl) ?_
  refine lv_iconst (v := 1) hx hb dL_law_1133 (by decide) ?_
  refine mz_addN hx hb i 1 dL_law_1134 ?_
  refine la_sld hx hb hX hbl hbA hS (i + 1) (by omega) hL dL_law_1135 ?_
  refine lv_aload_n hx hb dL_law_1136 rfl (lv_at hl 0 rfl) ?_
  refine lv_iload hx hb dL_law_1137 (lv_at hl 5 rfl) ?_
  refine lv_iconst (v := 2) hx hb dL_law_1139 (by decide) ?_
  refine mz_addN hx hb i 2 dL_law_1140 ?_
  refine la_sld hx hb hX hbl hbA hS (i + 2) (by omega) hL dL_law_1141 ?_
  refine lv_aload_n hx hb dL_law_1142 rfl (lv_at hl 0 rfl) ?_
  refine lv_iload hx hb dL_law_1143 (lv_at hl 5 rfl) ?_
  refine lv_iconst (v := 3) hx hb dL_law_1145 (by decide) ?_
  refine mz_addN hx hb i 3 dL_law_1146 ?_
  refine la_sld hx hb hX hbl hbA hS (i + 3) (by omega) hL dL_law_1147 ?_
  refine lv_aload_n hx hb dL_law_1148 rfl (lv_at hl 3 rfl) ?_
  have hPw : va_P E.1 vwCl ((dC E ad S zs rn dy bn cn tn) ++ [oL E o0 f0]) H := hPd.app hPo
  have hDw : va_D (fun q : Nat => s.heap.size ≤ q) ((dC E ad S zs rn dy bn cn tn) ++ [oL E o0 f0]) := (d1 _ _ _ _ _ _ _).app (d2 _) (a12 _ _ _ _ _ _ _ _)
  have hFc := fr_free hDw hS hA
  refine va_calli (vx_runSW (As := [.ref (ad 0), .int (xs (i + 1)), .int (xs (i + 2)), .int (xs (i + 3)), .ref o0]) (rest := []) ⟨hx, hb, hml, hown, hts⟩ (kL_see l hlt E ad S zs rn dy bn cn tn (xs (i + 1)) (xs (i + 2)) (xs (i + 3)) o0 f0 H.size (by first | omega | assumption | exact h60 | exact h6 | exact h20 | exact h200) (by first | omega | assumption | exact h60 | exact h6 | exact h20 | exact h200) (by first | omega | assumption | exact h60 | exact h6 | exact h20 | exact h200)) (vx_cwSW 5 hts gL_law_L_see rfl rfl rfl (by decide +kernel) ⟨Nat.le_of_ble_eq_true rfl, Nat.le_of_ble_eq_true rfl⟩) ⟨fb_Y, fun U hU hW => ⟨rfl, by rw [hU], by rw [hU]; exact hPw, hDw.weaken (fun _ _ _ _ => trivial), hE.warm hW, hU9.to hS hFc hU hW⟩⟩ rfl rfl hl.1 rfl (lv_room (Nat.le_of_ble_eq_true rfl)) dL_law_1149 ⟨by show _ ≤ 601024; omega, by show _ ≤ 7293034; omega⟩) hS (fun q _ h => hFc q h) hFc (fun r9 k t H1 locs ht hvm hw hB hz1 hk1 hS => ?_)
  obtain ⟨hr9, hk9⟩ := hw
  subst hr9
  rw [ht] at hB
  have hPm := ap_keep (ap.both (a13 _ _ _ _ _ _ _ _ _ _ _ _ _ _ _ _ _ _ _ _) (a23 _ _ _ _ _ _ _ _ _ _ _ _ _ _)) hPm hk1
  have hPg := ap_keep (ap.both (a14 _ _ _ _ _ _ _ _) (a24 _ _)) hPg hk1
  have hle9 := tSee_le (xs (i + 1)) (xs (i + 2)) (xs (i + 3)) rn cn
  rcases Nat.eq_zero_or_pos k with hk0 | hk0
  · subst hk0
    have hB : va_P E.1 vwCl ((dC E ad (va_up (va_up (va_up (va_up S 20 (upd (S 20) cn (nI dy))) 21 (upd (S 21) cn (nI (Int32.toNatClampNeg (xs (i + 1)))))) 22 (upd (S 22) cn (nI (Int32.toNatClampNeg (xs (i + 2)))))) 23 (upd (S 23) (dy * 6 + (Int32.toNatClampNeg (xs (i + 1)))) (S 23 (dy * 6 + (Int32.toNatClampNeg (xs (i + 1)))) + nI ((Int32.toNatClampNeg (xs (i + 3))) * (Int32.toNatClampNeg (xs (i + 3))))))) zs rn dy bn (cn + 1) tn) ++ [oL E o0 (vp_updL f0 0 (Int32.toInt64 ((upd (S 23) (dy * 6 + (Int32.toNatClampNeg (xs (i + 1)))) (S 23 (dy * 6 + (Int32.toNatClampNeg (xs (i + 1)))) + nI ((Int32.toNatClampNeg (xs (i + 3))) * (Int32.toNatClampNeg (xs (i + 3)))))) (dy * 6 + (Int32.toNatClampNeg (xs (i + 1)))))))]) H1 := hB
    have hPd := fr_l hB
    have hPo := fr_r hB
    clear hPw hDw hFc
    generalize H1 = H at hPd hPo hPm hPg hS ⊢
    refine lv_istore (lv' := [(6, .int 0), (0, .ref b), (1, .ref (ad 0)), (2, .ref (mm 0)), (3, .ref o0), (4, .ref d0), (5, .int (nI i))]) hx hb dL_law_1152 hl (by decide) rfl (fun ls hl => ?_)
    refine lv_aload_n hx hb dL_law_1154 rfl (lv_at hl 3 rfl) ?_
    refine lv_aload_n hx hb dL_law_1155 rfl (lv_at hl 1 rfl) ?_
    refine lv_iload hx hb dL_law_1156 (lv_at hl 6 rfl) ?_
    refine lv_iconst (v := 1) hx hb dL_law_1158 (by decide) ?_
    refine mz_addN hx hb i 1 dL_law_1159 ?_
    refine la_sld hx hb hX hbl hbA hS (i + 1) (by omega) hL dL_law_1160 ?_
    refine lv_aload_n hx hb dL_law_1161 rfl (lv_at hl 1 rfl) ?_
    refine lv_iload hx hb dL_law_1162 (lv_at hl 6 rfl) ?_
    refine lv_iconst (v := 2) hx hb dL_law_1164 (by decide) ?_
    refine mz_addN hx hb i 2 dL_law_1165 ?_
    refine la_sld hx hb hX hbl hbA hS (i + 2) (by omega) hL dL_law_1166 ?_
    refine lv_aload_n hx hb dL_law_1167 rfl (lv_at hl 1 rfl) ?_
    refine lv_iload hx hb dL_law_1168 (lv_at hl 6 rfl) ?_
    refine lv_iconst (v := 3) hx hb dL_law_1170 (by decide) ?_
    refine mz_addN hx hb i 3 dL_law_1171 ?_
    refine la_sld hx hb hX hbl hbA hS (i + 3) (by omega) hL dL_law_1172 ?_
    have hDc : va_D (fun q : Nat => s.heap.size ≤ q) (mC E mm th dy rn cn tn NU WE AT zs BU AV LS LT) := d3 _ _ _ _ _ _ _ _ _ _ _ _ _
    have hFc := fr_free hDc hS hA
    refine va_calli (va_runV (As := [.int (xs (i + 1)), .int (xs (i + 2)), .int (xs (i + 3))]) (rest := []) ⟨hx, hb, hml, hown, hts⟩ (kX5_see l E (mm 0) (mm 1) (mm 2) (mm 3) (mm 4) (mm 5) (mm 6) (mm 7) (mm 8) th dy rn cn tn NU WE AT zs BU AV LS LT (xs (i + 1)) (xs (i + 2)) (xs (i + 3)) H.size (by first | omega | assumption | exact hz) (by first | omega | assumption | exact hz) (by first | omega | assumption | exact hz)) (cwV 3 hts gL_law_X5_see rfl rfl rfl (by decide +kernel) ⟨Nat.le_of_ble_eq_true rfl, Nat.le_of_ble_eq_true rfl⟩) ⟨fb_W, va_recv hE.1 hPm (ci := 5) (q0 := 0) rfl rfl, fun U hU hW => ⟨rfl, by rw [hU], by rw [hU]; exact hPm, hDc.weaken (fun _ _ _ _ => trivial), hE.warm hW⟩⟩ rfl rfl hl.1 rfl (lv_room (Nat.le_of_ble_eq_true rfl)) dL_law_1173 ⟨by show _ ≤ 601024; omega, by show _ ≤ 7293034; omega⟩) hS (fun q _ h => hFc q h) hFc (fun r1173 u t H1 locs ht hvm hw hB hz1 hk1 hS => ?_)
    rw [ht] at hB
    have hPd := ap_keep (a13 _ _ _ _ _ _ _ _ _ _ _ _ _ _ _ _ _ _ _ _).comm hPd hk1
    have hPo := ap_keep (a23 _ _ _ _ _ _ _ _ _ _ _ _ _ _).comm hPo hk1
    have hPg := ap_keep (a34 _ _ _ _ _ _ _ _ _ _ _ _ _ _) hPg hk1
    obtain ⟨hk5, hw⟩ := hw
    have e5 : u = 0 := hk5.trans hk9.symm
    subst e5
    have hw := hw rfl
    have hPm : va_P E.1 vwCl (mC E mm 0 dy rn (cn + 1) tn NU WE AT zs BU (va_cpy (mdF dy (Int32.toNatClampNeg (xs (i + 1))) (Int32.toNatClampNeg (xs (i + 2))) (xs (i + 3))) AV 0 (4 * cn) 4) LS LT) H1 := hB
    clear hDc hFc
    generalize H1 = H at hPd hPo hPm hPg hS ⊢
    subst hw
    obtain ⟨heq, hR⟩ := op_see hR (xs (i + 1)) (xs (i + 2)) (xs (i + 3)) hk9
    refine lv_istore (lv' := [(7, .int (acM (va_cpy (mdF dy (Int32.toNatClampNeg (xs (i + 1))) (Int32.toNatClampNeg (xs (i + 2))) (xs (i + 3))) AV 0 (4 * cn) 4) dy (Int32.toNatClampNeg (xs (i + 1))) (cn + 1))), (6, .int 0), (0, .ref b), (1, .ref (ad 0)), (2, .ref (mm 0)), (3, .ref o0), (4, .ref d0), (5, .int (nI i))]) hx hb dL_law_1176 hl (by decide) rfl (fun ls hl => ?_)
    refine lv_aload_n hx hb dL_law_1178 rfl (lv_at hl 4 rfl) ?_
    have hPt : va_P E.1 vwCl [(mm 0, .inr (5, [.int 0, .int (nI dy), .int (nI rn), .ref (mm 1), .ref (mm 2), .ref (mm 3), .ref (mm 4), .ref (mm 5), .int (nI (cn + 1)), .ref (mm 6), .int (nI tn), .ref (mm 7), .ref (mm 8)]))] H := hPm.sub [0] rfl
    refine va_calli (va_runV (As := []) (rest := []) ⟨hx, hb, hml, hown, hts⟩ (kX5_thrown l E (mm 0) (mm 1) (mm 2) (mm 3) (mm 4) (mm 5) (mm 6) (mm 7) (mm 8) 0 dy rn (cn + 1) tn ) (cwV 0 hts gL_law_X5_thrown rfl rfl rfl (by decide +kernel) ⟨Nat.le_of_ble_eq_true rfl, Nat.le_of_ble_eq_true rfl⟩) ⟨fb_R, va_recv hE.1 hPm (ci := 5) (q0 := 0) rfl rfl, fun U hU hW => ⟨rfl, by rw [hU]; exact hPt, hE.warm hW⟩⟩ rfl rfl hl.1 rfl (lv_room (Nat.le_of_ble_eq_true rfl)) dL_law_1179 ⟨by show _ ≤ 601024; omega, by show _ ≤ 7293034; omega⟩) hS (fun q _ h => h.elim) (fun q h => h.elim) (fun r1179 u t H1 locs ht hvm hw hB hz1 hk1 hS => ?_)
    have hPd := hPd.ro hk1
    have hPo := hPo.ro hk1
    have hPm := hPm.ro hk1
    have hPg := hPg.ro hk1
    generalize H1 = H at hPd hPo hPm hPg hS ⊢
    subst hw
    refine lv_iload hx hb dL_law_1182 (lv_at hl 1 rfl) ?_
    refine mz_eqN hx hb 0 0 (tgt := 1189) dL_law_1184 (by decide) (by omega) (by omega) (fun _ => ?_) (fun c9 => absurd rfl c9)
    refine lv_iload hx hb dL_law_1189 (lv_at hl 1 rfl) ?_
    refine lv_if_ne (tgt := 1206) hx hb dL_law_1191 (by decide) (fun c9 => absurd rfl c9) (fun _ => ?_)
    refine lv_aload_n hx hb dL_law_1194 rfl (lv_at hl 5 rfl) ?_
    refine lv_iconst (v := 0) hx hb dL_law_1195 (by decide) ?_
    refine la_lld hx hb hE hPo dL_law_1196 ?_
    refine lv_iload hx hb dL_law_1197 (lv_at hl 0 rfl) ?_
    refine lv_i2l hx hb dL_law_1199 rfl ?_
    refine la_eqL hx hb (congrArg Int32.toInt64 heq) (tgt := 1206) dL_law_1200 dL_law_1201 (by decide) ?_
    refine lv_goto (tgt := 1642) hx hb dL_law_1206 (by decide) ?_
    refine W.widen (k := cl + 740) (n := sl + 3700) (by omega) (by omega) ?_
    exact K _ _ _ ⟨_, _, _, _, _, _, _, _, _, _, _, _, _, _, _, _, _, hR, hPd, hPo, hPm, hPg⟩ hS (lv_sub hl [2, 3, 4, 5, 6, 7] rfl)
  · obtain ⟨k, rfl⟩ : ∃ k9, k = k9 + 1 := ⟨k - 1, by omega⟩
    have hB : va_P E.1 vwCl ((dC E ad S zs rn dy bn cn tn) ++ [oL E o0 f0]) H1 := hB
    have hPd := fr_l hB
    have hPo := fr_r hB
    clear hPw hDw hFc
    generalize H1 = H at hPd hPo hPm hPg hS ⊢
    refine lv_istore (lv' := [(6, .int (nI (k + 1))), (0, .ref b), (1, .ref (ad 0)), (2, .ref (mm 0)), (3, .ref o0), (4, .ref d0), (5, .int (nI i))]) hx hb dL_law_1152 hl (by decide) rfl (fun ls hl => ?_)
    refine lv_aload_n hx hb dL_law_1154 rfl (lv_at hl 3 rfl) ?_
    refine lv_aload_n hx hb dL_law_1155 rfl (lv_at hl 1 rfl) ?_
    refine lv_iload hx hb dL_law_1156 (lv_at hl 6 rfl) ?_
    refine lv_iconst (v := 1) hx hb dL_law_1158 (by decide) ?_
    refine mz_addN hx hb i 1 dL_law_1159 ?_
    refine la_sld hx hb hX hbl hbA hS (i + 1) (by omega) hL dL_law_1160 ?_
    refine lv_aload_n hx hb dL_law_1161 rfl (lv_at hl 1 rfl) ?_
    refine lv_iload hx hb dL_law_1162 (lv_at hl 6 rfl) ?_
    refine lv_iconst (v := 2) hx hb dL_law_1164 (by decide) ?_
    refine mz_addN hx hb i 2 dL_law_1165 ?_
    refine la_sld hx hb hX hbl hbA hS (i + 2) (by omega) hL dL_law_1166 ?_
    refine lv_aload_n hx hb dL_law_1167 rfl (lv_at hl 1 rfl) ?_
    refine lv_iload hx hb dL_law_1168 (lv_at hl 6 rfl) ?_
    refine lv_iconst (v := 3) hx hb dL_law_1170 (by decide) ?_
    refine mz_addN hx hb i 3 dL_law_1171 ?_
    refine la_sld hx hb hX hbl hbA hS (i + 3) (by omega) hL dL_law_1172 ?_
    have hDc : va_D (fun q : Nat => s.heap.size ≤ q) (mC E mm th dy rn cn tn NU WE AT zs BU AV LS LT) := d3 _ _ _ _ _ _ _ _ _ _ _ _ _
    have hFc := fr_free hDc hS hA
    refine va_calli (va_runV (As := [.int (xs (i + 1)), .int (xs (i + 2)), .int (xs (i + 3))]) (rest := []) ⟨hx, hb, hml, hown, hts⟩ (kX5_see l E (mm 0) (mm 1) (mm 2) (mm 3) (mm 4) (mm 5) (mm 6) (mm 7) (mm 8) th dy rn cn tn NU WE AT zs BU AV LS LT (xs (i + 1)) (xs (i + 2)) (xs (i + 3)) H.size (by first | omega | assumption | exact hz) (by first | omega | assumption | exact hz) (by first | omega | assumption | exact hz)) (cwV 3 hts gL_law_X5_see rfl rfl rfl (by decide +kernel) ⟨Nat.le_of_ble_eq_true rfl, Nat.le_of_ble_eq_true rfl⟩) ⟨fb_W, va_recv hE.1 hPm (ci := 5) (q0 := 0) rfl rfl, fun U hU hW => ⟨rfl, by rw [hU], by rw [hU]; exact hPm, hDc.weaken (fun _ _ _ _ => trivial), hE.warm hW⟩⟩ rfl rfl hl.1 rfl (lv_room (Nat.le_of_ble_eq_true rfl)) dL_law_1173 ⟨by show _ ≤ 601024; omega, by show _ ≤ 7293034; omega⟩) hS (fun q _ h => hFc q h) hFc (fun r1173 u t H1 locs ht hvm hw hB hz1 hk1 hS => ?_)
    rw [ht] at hB
    have hPd := ap_keep (a13 _ _ _ _ _ _ _ _ _ _ _ _ _ _ _ _ _ _ _ _).comm hPd hk1
    have hPo := ap_keep (a23 _ _ _ _ _ _ _ _ _ _ _ _ _ _).comm hPo hk1
    have hPg := ap_keep (a34 _ _ _ _ _ _ _ _ _ _ _ _ _ _) hPg hk1
    obtain ⟨hk5, hw⟩ := hw
    have e5 : u = k + 1 := hk5.trans hk9.symm
    subst e5
    have hPm : va_P E.1 vwCl (mC E mm (nI (k + 1)) dy rn cn tn NU WE AT zs BU AV LS LT) H1 := hB
    clear hDc hFc
    generalize H1 = H at hPd hPo hPm hPg hS ⊢
    refine lv_istore (lv' := [(7, .int r1173), (6, .int (nI (k + 1))), (0, .ref b), (1, .ref (ad 0)), (2, .ref (mm 0)), (3, .ref o0), (4, .ref d0), (5, .int (nI i))]) hx hb dL_law_1176 hl (by decide) rfl (fun ls hl => ?_)
    refine lv_aload_n hx hb dL_law_1178 rfl (lv_at hl 4 rfl) ?_
    have hPt : va_P E.1 vwCl [(mm 0, .inr (5, [.int (nI (k + 1)), .int (nI dy), .int (nI rn), .ref (mm 1), .ref (mm 2), .ref (mm 3), .ref (mm 4), .ref (mm 5), .int (nI cn), .ref (mm 6), .int (nI tn), .ref (mm 7), .ref (mm 8)]))] H := hPm.sub [0] rfl
    refine va_calli (va_runV (As := []) (rest := []) ⟨hx, hb, hml, hown, hts⟩ (kX5_thrown l E (mm 0) (mm 1) (mm 2) (mm 3) (mm 4) (mm 5) (mm 6) (mm 7) (mm 8) (nI (k + 1)) dy rn cn tn ) (cwV 0 hts gL_law_X5_thrown rfl rfl rfl (by decide +kernel) ⟨Nat.le_of_ble_eq_true rfl, Nat.le_of_ble_eq_true rfl⟩) ⟨fb_R, va_recv hE.1 hPm (ci := 5) (q0 := 0) rfl rfl, fun U hU hW => ⟨rfl, by rw [hU]; exact hPt, hE.warm hW⟩⟩ rfl rfl hl.1 rfl (lv_room (Nat.le_of_ble_eq_true rfl)) dL_law_1179 ⟨by show _ ≤ 601024; omega, by show _ ≤ 7293034; omega⟩) hS (fun q _ h => h.elim) (fun q h => h.elim) (fun r1179 u t H1 locs ht hvm hw hB hz1 hk1 hS => ?_)
    have hPd := hPd.ro hk1
    have hPo := hPo.ro hk1
    have hPm := hPm.ro hk1
    have hPg := hPg.ro hk1
    generalize H1 = H at hPd hPo hPm hPg hS ⊢
    subst hw
    refine lv_iload hx hb dL_law_1182 (lv_at hl 1 rfl) ?_
    refine mz_eqN hx hb (k + 1) (k + 1) (tgt := 1189) dL_law_1184 (by decide) (by omega) (by omega) (fun _ => ?_) (fun c9 => absurd rfl c9)
    refine lv_iload hx hb dL_law_1189 (lv_at hl 1 rfl) ?_
    refine mz_ifneN hx hb (k + 1) (tgt := 1206) dL_law_1191 (by decide) (by omega) (fun _ => ?_) (fun c9 => absurd c9 (by omega))
    refine lv_goto (tgt := 1642) hx hb dL_law_1206 (by decide) ?_
    refine W.widen (k := cl + 740) (n := sl + 3700) (by omega) (by omega) ?_
    exact K _ _ _ ⟨_, _, _, _, _, _, _, _, _, _, _, _, _, _, _, _, _, hR, hPd, hPo, hPm, hPg⟩ hS (lv_sub hl [2, 3, 4, 5, 6, 7] rfl)
set_option maxHeartbeats 4000000 in
set_option maxRecDepth 100000 in
theorem arm_activity {p : Program} {e : Env} {s : State} {m : MethodId} {below : List Frame} {meth : Method} {c : Code} (l : Launch) (hlt : l.stackTraces = false) {b L : Nat} {xs : Nat → Int32} (hL : L ≤ 3072) (C0 : lw_At p s m meth c b L xs) {E : ev_T} {ad mm : Nat → Nat} {o0 d0 : Nat} (hE : ev_U E s) (hU9 : ex_U (fun q : Nat => s.heap.size ≤ q) s s.heap) (hLD : LD E ad mm o0 d0 (fun q : Nat => s.heap.size ≤ q)) {i cl sl : Nat} (hi : i + 6 ≤ L) (hcl : cl + 740 ≤ 601024) (hsl : sl + 3700 ≤ 7293034)
    (K : ∀ (H : Heap) (locs : List Loc) (ls : Array Slot), LX E ad mm o0 d0 H → va_S (fun q : Nat => s.heap.size ≤ q) s.heap H locs → lv_has ls 9 [(0, .ref b), (1, .ref (ad 0)), (2, .ref (mm 0)), (3, .ref o0), (4, .ref d0), (5, .int (nI i))] → W p l e room_1 s m #[Value.ref b] below meth c H locs (cl + 740) (sl + 3700) (lw_Z below #[Value.ref b] s) (F0 m 1642 ls []))
    {H : Heap} {locs : List Loc} {ls : Array Slot} (hX0 : LX E ad mm o0 d0 H) (hS : va_S (fun q : Nat => s.heap.size ≤ q) s.heap H locs) (hl : lv_has ls 9 [(0, .ref b), (1, .ref (ad 0)), (2, .ref (mm 0)), (3, .ref o0), (4, .ref d0), (5, .int (nI i))]) : W p l e room_1 s m #[Value.ref b] below meth c H locs cl sl (lw_Z below #[Value.ref b] s) (F0 m 1209 ls []) := by
  obtain ⟨hx, hb, hr, hml, hown, hts0, hX, hbl, hlocks, hgv⟩ := id C0
  have hts : ∀ w ∈ wsL_law, w.before #[Value.ref b] s = true := fun w h => hts0 w (wsL_law_in w h)
  have hown : s.vm.findClass RL = some m.cls := hown
  obtain ⟨S, zs, rn, dy, bn, cn, tn, th, NU, WE, AT, BU, AV, LS, LT, f0, g0, hR, hPd, hPo, hPm, hPg⟩ := hX0
  obtain ⟨d1, d2, d3, d4, a12, a13, a14, a23, a24, a34⟩ := hLD
  have hA : ∀ q : Nat, s.heap.size ≤ q → (fun q : Nat => s.heap.size ≤ q) q := fun _ h => h
  have hbA : ¬ (fun q : Nat => s.heap.size ≤ q) b := Nat.not_le.mpr hbl
  obtain ⟨h6, h60, h200, h20⟩ := hR.1
  have hz := hR.hz
  refine lv_aload_n hx hb dL_law_1209 rfl (lv_at hl 1 rfl) ?_
  refine lv_aload_n hx hb dL_law_1210 rfl (lv_at hl 0 rfl) ?_
  refine lv_iload hx hb dL_law_1211 (lv_at hl 5 rfl) ?_
  refine lv_iconst (v := 1) hx hb dL_law_1213 (by decide) ?_
  refine mz_addN hx hb i 1 dL_law_1214 ?_
  refine la_sld hx hb hX hbl hbA hS (i + 1) (by omega) hL dL_law_1215 ?_
  refine lv_aload_n hx hb dL_law_1216 rfl (lv_at hl 0 rfl) ?_
  refine lv_iload hx hb dL_law_1217 (lv_at hl 5 rfl) ?_
  refine lv_iconst (v := 2) hx hb dL_law_1219 (by decide) ?_
  refine mz_addN hx hb i 2 dL_law_1220 ?_
  refine la_sld hx hb hX hbl hbA hS (i + 2) (by omega) hL dL_law_1221 ?_
  refine lv_aload_n hx hb dL_law_1222 rfl (lv_at hl 3 rfl) ?_
  have hPw : va_P E.1 vwCl ((dC E ad S zs rn dy bn cn tn) ++ [oL E o0 f0]) H := hPd.app hPo
  have hDw : va_D (fun q : Nat => s.heap.size ≤ q) ((dC E ad S zs rn dy bn cn tn) ++ [oL E o0 f0]) := (d1 _ _ _ _ _ _ _).app (d2 _) (a12 _ _ _ _ _ _ _ _)
  have hFc := fr_free hDw hS hA
  refine va_calli (vx_runSW (As := [.ref (ad 0), .int (xs (i + 1)), .int (xs (i + 2)), .ref o0]) (rest := []) ⟨hx, hb, hml, hown, hts⟩ (kL_activity l hlt E ad S zs rn dy bn cn tn (xs (i + 1)) (xs (i + 2)) o0 f0 H.size (by first | omega | assumption | exact h60 | exact h6 | exact h20 | exact h200) (by first | omega | assumption | exact h60 | exact h6 | exact h20 | exact h200)) (vx_cwSW 4 hts gL_law_L_activity rfl rfl rfl (by decide +kernel) ⟨Nat.le_of_ble_eq_true rfl, Nat.le_of_ble_eq_true rfl⟩) ⟨fb_Y, fun U hU hW => ⟨rfl, by rw [hU], by rw [hU]; exact hPw, hDw.weaken (fun _ _ _ _ => trivial), hE.warm hW, hU9.to hS hFc hU hW⟩⟩ rfl rfl hl.1 rfl (lv_room (Nat.le_of_ble_eq_true rfl)) dL_law_1223 ⟨by show _ ≤ 601024; omega, by show _ ≤ 7293034; omega⟩) hS (fun q _ h => hFc q h) hFc (fun r9 k t H1 locs ht hvm hw hB hz1 hk1 hS => ?_)
  obtain ⟨hr9, hk9⟩ := hw
  subst hr9
  rw [ht] at hB
  have hPm := ap_keep (ap.both (a13 _ _ _ _ _ _ _ _ _ _ _ _ _ _ _ _ _ _ _ _) (a23 _ _ _ _ _ _ _ _ _ _ _ _ _ _)) hPm hk1
  have hPg := ap_keep (ap.both (a14 _ _ _ _ _ _ _ _) (a24 _ _)) hPg hk1
  have hle9 := tAct_le (xs (i + 1)) (xs (i + 2)) dy rn
  rcases Nat.eq_zero_or_pos k with hk0 | hk0
  · subst hk0
    have hB : va_P E.1 vwCl ((dC E ad S zs rn dy bn cn tn) ++ [oL E o0 (vp_updL f0 0 (Int32.toInt64 (S 23 ((Int32.toNatClampNeg (xs (i + 1))) * 6 + (Int32.toNatClampNeg (xs (i + 2)))))))]) H1 := hB
    have hPd := fr_l hB
    have hPo := fr_r hB
    clear hPw hDw hFc
    generalize H1 = H at hPd hPo hPm hPg hS ⊢
    refine lv_istore (lv' := [(6, .int 0), (0, .ref b), (1, .ref (ad 0)), (2, .ref (mm 0)), (3, .ref o0), (4, .ref d0), (5, .int (nI i))]) hx hb dL_law_1226 hl (by decide) rfl (fun ls hl => ?_)
    refine lv_aload_n hx hb dL_law_1228 rfl (lv_at hl 3 rfl) ?_
    refine lv_aload_n hx hb dL_law_1229 rfl (lv_at hl 1 rfl) ?_
    refine lv_iload hx hb dL_law_1230 (lv_at hl 6 rfl) ?_
    refine lv_iconst (v := 1) hx hb dL_law_1232 (by decide) ?_
    refine mz_addN hx hb i 1 dL_law_1233 ?_
    refine la_sld hx hb hX hbl hbA hS (i + 1) (by omega) hL dL_law_1234 ?_
    refine lv_aload_n hx hb dL_law_1235 rfl (lv_at hl 1 rfl) ?_
    refine lv_iload hx hb dL_law_1236 (lv_at hl 6 rfl) ?_
    refine lv_iconst (v := 2) hx hb dL_law_1238 (by decide) ?_
    refine mz_addN hx hb i 2 dL_law_1239 ?_
    refine la_sld hx hb hX hbl hbA hS (i + 2) (by omega) hL dL_law_1240 ?_
    have hDc : va_D (fun q : Nat => s.heap.size ≤ q) (mC E mm th dy rn cn tn NU WE AT zs BU AV LS LT) := d3 _ _ _ _ _ _ _ _ _ _ _ _ _
    have hFc := fr_free hDc hS hA
    refine va_calli (va_runV (As := [.int (xs (i + 1)), .int (xs (i + 2))]) (rest := []) ⟨hx, hb, hml, hown, hts⟩ (kX5_activity l E (mm 0) (mm 1) (mm 2) (mm 3) (mm 4) (mm 5) (mm 6) (mm 7) (mm 8) th dy rn cn tn NU WE AT zs BU AV LS LT (xs (i + 1)) (xs (i + 2)) H.size (by first | omega | assumption | exact hz) (by first | omega | assumption | exact hz) (by first | omega | assumption | exact hz)) (cwV 2 hts gL_law_X5_activity rfl rfl rfl (by decide +kernel) ⟨Nat.le_of_ble_eq_true rfl, Nat.le_of_ble_eq_true rfl⟩) ⟨fb_W, va_recv hE.1 hPm (ci := 5) (q0 := 0) rfl rfl, fun U hU hW => ⟨rfl, by rw [hU], by rw [hU]; exact hPm, hDc.weaken (fun _ _ _ _ => trivial), hE.warm hW⟩⟩ rfl rfl hl.1 rfl (lv_room (Nat.le_of_ble_eq_true rfl)) dL_law_1241 ⟨by show _ ≤ 601024; omega, by show _ ≤ 7293034; omega⟩) hS (fun q _ h => hFc q h) hFc (fun r1241 u t H1 locs ht hvm hw hB hz1 hk1 hS => ?_)
    rw [ht] at hB
    have hPd := ap_keep (a13 _ _ _ _ _ _ _ _ _ _ _ _ _ _ _ _ _ _ _ _).comm hPd hk1
    have hPo := ap_keep (a23 _ _ _ _ _ _ _ _ _ _ _ _ _ _).comm hPo hk1
    have hPg := ap_keep (a34 _ _ _ _ _ _ _ _ _ _ _ _ _ _) hPg hk1
    obtain ⟨hk5, hw⟩ := hw
    have e5 : u = 0 := hk5.trans hk9.symm
    subst e5
    have hw := hw rfl
    have hPm : va_P E.1 vwCl (mC E mm 0 dy rn cn tn NU WE AT zs BU AV LS LT) H1 := hB
    clear hDc hFc
    generalize H1 = H at hPd hPo hPm hPg hS ⊢
    subst hw
    have heq := op_activity hR (xs (i + 1)) (xs (i + 2)) hk9
    refine lv_istore (lv' := [(7, .int (acM AV (Int32.toNatClampNeg (xs (i + 1))) (Int32.toNatClampNeg (xs (i + 2))) cn)), (6, .int 0), (0, .ref b), (1, .ref (ad 0)), (2, .ref (mm 0)), (3, .ref o0), (4, .ref d0), (5, .int (nI i))]) hx hb dL_law_1244 hl (by decide) rfl (fun ls hl => ?_)
    refine lv_aload_n hx hb dL_law_1246 rfl (lv_at hl 4 rfl) ?_
    have hPt : va_P E.1 vwCl [(mm 0, .inr (5, [.int 0, .int (nI dy), .int (nI rn), .ref (mm 1), .ref (mm 2), .ref (mm 3), .ref (mm 4), .ref (mm 5), .int (nI cn), .ref (mm 6), .int (nI tn), .ref (mm 7), .ref (mm 8)]))] H := hPm.sub [0] rfl
    refine va_calli (va_runV (As := []) (rest := []) ⟨hx, hb, hml, hown, hts⟩ (kX5_thrown l E (mm 0) (mm 1) (mm 2) (mm 3) (mm 4) (mm 5) (mm 6) (mm 7) (mm 8) 0 dy rn cn tn ) (cwV 0 hts gL_law_X5_thrown rfl rfl rfl (by decide +kernel) ⟨Nat.le_of_ble_eq_true rfl, Nat.le_of_ble_eq_true rfl⟩) ⟨fb_R, va_recv hE.1 hPm (ci := 5) (q0 := 0) rfl rfl, fun U hU hW => ⟨rfl, by rw [hU]; exact hPt, hE.warm hW⟩⟩ rfl rfl hl.1 rfl (lv_room (Nat.le_of_ble_eq_true rfl)) dL_law_1247 ⟨by show _ ≤ 601024; omega, by show _ ≤ 7293034; omega⟩) hS (fun q _ h => h.elim) (fun q h => h.elim) (fun r1247 u t H1 locs ht hvm hw hB hz1 hk1 hS => ?_)
    have hPd := hPd.ro hk1
    have hPo := hPo.ro hk1
    have hPm := hPm.ro hk1
    have hPg := hPg.ro hk1
    generalize H1 = H at hPd hPo hPm hPg hS ⊢
    subst hw
    refine lv_iload hx hb dL_law_1250 (lv_at hl 1 rfl) ?_
    refine mz_eqN hx hb 0 0 (tgt := 1257) dL_law_1252 (by decide) (by omega) (by omega) (fun _ => ?_) (fun c9 => absurd rfl c9)
    refine lv_iload hx hb dL_law_1257 (lv_at hl 1 rfl) ?_
    refine lv_if_ne (tgt := 1274) hx hb dL_law_1259 (by decide) (fun c9 => absurd rfl c9) (fun _ => ?_)
    refine lv_aload_n hx hb dL_law_1262 rfl (lv_at hl 5 rfl) ?_
    refine lv_iconst (v := 0) hx hb dL_law_1263 (by decide) ?_
    refine la_lld hx hb hE hPo dL_law_1264 ?_
    refine lv_iload hx hb dL_law_1265 (lv_at hl 0 rfl) ?_
    refine lv_i2l hx hb dL_law_1267 rfl ?_
    refine la_eqL hx hb (congrArg Int32.toInt64 heq) (tgt := 1274) dL_law_1268 dL_law_1269 (by decide) ?_
    refine lv_goto (tgt := 1642) hx hb dL_law_1274 (by decide) ?_
    refine W.widen (k := cl + 740) (n := sl + 3700) (by omega) (by omega) ?_
    exact K _ _ _ ⟨_, _, _, _, _, _, _, _, _, _, _, _, _, _, _, _, _, hR, hPd, hPo, hPm, hPg⟩ hS (lv_sub hl [2, 3, 4, 5, 6, 7] rfl)
  · obtain ⟨k, rfl⟩ : ∃ k9, k = k9 + 1 := ⟨k - 1, by omega⟩
    have hB : va_P E.1 vwCl ((dC E ad S zs rn dy bn cn tn) ++ [oL E o0 f0]) H1 := hB
    have hPd := fr_l hB
    have hPo := fr_r hB
    clear hPw hDw hFc
    generalize H1 = H at hPd hPo hPm hPg hS ⊢
    refine lv_istore (lv' := [(6, .int (nI (k + 1))), (0, .ref b), (1, .ref (ad 0)), (2, .ref (mm 0)), (3, .ref o0), (4, .ref d0), (5, .int (nI i))]) hx hb dL_law_1226 hl (by decide) rfl (fun ls hl => ?_)
    refine lv_aload_n hx hb dL_law_1228 rfl (lv_at hl 3 rfl) ?_
    refine lv_aload_n hx hb dL_law_1229 rfl (lv_at hl 1 rfl) ?_
    refine lv_iload hx hb dL_law_1230 (lv_at hl 6 rfl) ?_
    refine lv_iconst (v := 1) hx hb dL_law_1232 (by decide) ?_
    refine mz_addN hx hb i 1 dL_law_1233 ?_
    refine la_sld hx hb hX hbl hbA hS (i + 1) (by omega) hL dL_law_1234 ?_
    refine lv_aload_n hx hb dL_law_1235 rfl (lv_at hl 1 rfl) ?_
    refine lv_iload hx hb dL_law_1236 (lv_at hl 6 rfl) ?_
    refine lv_iconst (v := 2) hx hb dL_law_1238 (by decide) ?_
    refine mz_addN hx hb i 2 dL_law_1239 ?_
    refine la_sld hx hb hX hbl hbA hS (i + 2) (by omega) hL dL_law_1240 ?_
    have hDc : va_D (fun q : Nat => s.heap.size ≤ q) (mC E mm th dy rn cn tn NU WE AT zs BU AV LS LT) := d3 _ _ _ _ _ _ _ _ _ _ _ _ _
    have hFc := fr_free hDc hS hA
    refine va_calli (va_runV (As := [.int (xs (i + 1)), .int (xs (i + 2))]) (rest := []) ⟨hx, hb, hml, hown, hts⟩ (kX5_activity l E (mm 0) (mm 1) (mm 2) (mm 3) (mm 4) (mm 5) (mm 6) (mm 7) (mm 8) th dy rn cn tn NU WE AT zs BU AV LS LT (xs (i + 1)) (xs (i + 2)) H.size (by first | omega | assumption | exact hz) (by first | omega | assumption | exact hz) (by first | omega | assumption | exact hz)) (cwV 2 hts gL_law_X5_activity rfl rfl rfl (by decide +kernel) ⟨Nat.le_of_ble_eq_true rfl, Nat.le_of_ble_eq_true rfl⟩) ⟨fb_W, va_recv hE.1 hPm (ci := 5) (q0 := 0) rfl rfl, fun U hU hW => ⟨rfl, by rw [hU], by rw [hU]; exact hPm, hDc.weaken (fun _ _ _ _ => trivial), hE.warm hW⟩⟩ rfl rfl hl.1 rfl (lv_room (Nat.le_of_ble_eq_true rfl)) dL_law_1241 ⟨by show _ ≤ 601024; omega, by show _ ≤ 7293034; omega⟩) hS (fun q _ h => hFc q h) hFc (fun r1241 u t H1 locs ht hvm hw hB hz1 hk1 hS => ?_)
    rw [ht] at hB
    have hPd := ap_keep (a13 _ _ _ _ _ _ _ _ _ _ _ _ _ _ _ _ _ _ _ _).comm hPd hk1
    have hPo := ap_keep (a23 _ _ _ _ _ _ _ _ _ _ _ _ _ _).comm hPo hk1
    have hPg := ap_keep (a34 _ _ _ _ _ _ _ _ _ _ _ _ _ _) hPg hk1
    obtain ⟨hk5, hw⟩ := hw
    have e5 : u = k + 1 := hk5.trans hk9.symm
    subst e5
    have hPm : va_P E.1 vwCl (mC E mm (nI (k + 1)) dy rn cn tn NU WE AT zs BU AV LS LT) H1 := hB
    clear hDc hFc
    generalize H1 = H at hPd hPo hPm hPg hS ⊢
    refine lv_istore (lv' := [(7, .int r1241), (6, .int (nI (k + 1))), (0, .ref b), (1, .ref (ad 0)), (2, .ref (mm 0)), (3, .ref o0), (4, .ref d0), (5, .int (nI i))]) hx hb dL_law_1244 hl (by decide) rfl (fun ls hl => ?_)
    refine lv_aload_n hx hb dL_law_1246 rfl (lv_at hl 4 rfl) ?_
    have hPt : va_P E.1 vwCl [(mm 0, .inr (5, [.int (nI (k + 1)), .int (nI dy), .int (nI rn), .ref (mm 1), .ref (mm 2), .ref (mm 3), .ref (mm 4), .ref (mm 5), .int (nI cn), .ref (mm 6), .int (nI tn), .ref (mm 7), .ref (mm 8)]))] H := hPm.sub [0] rfl
    refine va_calli (va_runV (As := []) (rest := []) ⟨hx, hb, hml, hown, hts⟩ (kX5_thrown l E (mm 0) (mm 1) (mm 2) (mm 3) (mm 4) (mm 5) (mm 6) (mm 7) (mm 8) (nI (k + 1)) dy rn cn tn ) (cwV 0 hts gL_law_X5_thrown rfl rfl rfl (by decide +kernel) ⟨Nat.le_of_ble_eq_true rfl, Nat.le_of_ble_eq_true rfl⟩) ⟨fb_R, va_recv hE.1 hPm (ci := 5) (q0 := 0) rfl rfl, fun U hU hW => ⟨rfl, by rw [hU]; exact hPt, hE.warm hW⟩⟩ rfl rfl hl.1 rfl (lv_room (Nat.le_of_ble_eq_true rfl)) dL_law_1247 ⟨by show _ ≤ 601024; omega, by show _ ≤ 7293034; omega⟩) hS (fun q _ h => h.elim) (fun q h => h.elim) (fun r1247 u t H1 locs ht hvm hw hB hz1 hk1 hS => ?_)
    have hPd := hPd.ro hk1
    have hPo := hPo.ro hk1
    have hPm := hPm.ro hk1
    have hPg := hPg.ro hk1
    generalize H1 = H at hPd hPo hPm hPg hS ⊢
    subst hw
    refine lv_iload hx hb dL_law_1250 (lv_at hl 1 rfl) ?_
    refine mz_eqN hx hb (k + 1) (k + 1) (tgt := 1257) dL_law_1252 (by decide) (by omega) (by omega) (fun _ => ?_) (fun c9 => absurd rfl c9)
    refine lv_iload hx hb dL_law_1257 (lv_at hl 1 rfl) ?_
    refine mz_ifneN hx hb (k + 1) (tgt := 1274) dL_law_1259 (by decide) (by omega) (fun _ => ?_) (fun c9 => absurd c9 (by omega))
    refine lv_goto (tgt := 1642) hx hb dL_law_1274 (by decide) ?_
    refine W.widen (k := cl + 740) (n := sl + 3700) (by omega) (by omega) ?_
    exact K _ _ _ ⟨_, _, _, _, _, _, _, _, _, _, _, _, _, _, _, _, _, hR, hPd, hPo, hPm, hPg⟩ hS (lv_sub hl [2, 3, 4, 5, 6, 7] rfl)
set_option maxHeartbeats 4000000 in
set_option maxRecDepth 100000 in
theorem arm_borneOut {p : Program} {e : Env} {s : State} {m : MethodId} {below : List Frame} {meth : Method} {c : Code} (l : Launch) (hlt : l.stackTraces = false) {b L : Nat} {xs : Nat → Int32} (hL : L ≤ 3072) (C0 : lw_At p s m meth c b L xs) {E : ev_T} {ad mm : Nat → Nat} {o0 d0 : Nat} (hE : ev_U E s) (hU9 : ex_U (fun q : Nat => s.heap.size ≤ q) s s.heap) (hLD : LD E ad mm o0 d0 (fun q : Nat => s.heap.size ≤ q)) {i cl sl : Nat} (hi : i + 6 ≤ L) (hcl : cl + 740 ≤ 601024) (hsl : sl + 3700 ≤ 7293034)
    (K : ∀ (H : Heap) (locs : List Loc) (ls : Array Slot), LX E ad mm o0 d0 H → va_S (fun q : Nat => s.heap.size ≤ q) s.heap H locs → lv_has ls 9 [(0, .ref b), (1, .ref (ad 0)), (2, .ref (mm 0)), (3, .ref o0), (4, .ref d0), (5, .int (nI i))] → W p l e room_1 s m #[Value.ref b] below meth c H locs (cl + 740) (sl + 3700) (lw_Z below #[Value.ref b] s) (F0 m 1642 ls []))
    {H : Heap} {locs : List Loc} {ls : Array Slot} (hX0 : LX E ad mm o0 d0 H) (hS : va_S (fun q : Nat => s.heap.size ≤ q) s.heap H locs) (hl : lv_has ls 9 [(0, .ref b), (1, .ref (ad 0)), (2, .ref (mm 0)), (3, .ref o0), (4, .ref d0), (5, .int (nI i))]) : W p l e room_1 s m #[Value.ref b] below meth c H locs cl sl (lw_Z below #[Value.ref b] s) (F0 m 1277 ls []) := by
  obtain ⟨hx, hb, hr, hml, hown, hts0, hX, hbl, hlocks, hgv⟩ := id C0
  have hts : ∀ w ∈ wsL_law, w.before #[Value.ref b] s = true := fun w h => hts0 w (wsL_law_in w h)
  have hown : s.vm.findClass RL = some m.cls := hown
  obtain ⟨S, zs, rn, dy, bn, cn, tn, th, NU, WE, AT, BU, AV, LS, LT, f0, g0, hR, hPd, hPo, hPm, hPg⟩ := hX0
  obtain ⟨d1, d2, d3, d4, a12, a13, a14, a23, a24, a34⟩ := hLD
  have hA : ∀ q : Nat, s.heap.size ≤ q → (fun q : Nat => s.heap.size ≤ q) q := fun _ h => h
  have hbA : ¬ (fun q : Nat => s.heap.size ≤ q) b := Nat.not_le.mpr hbl
  obtain ⟨h6, h60, h200, h20⟩ := hR.1
  have hz := hR.hz
  refine lv_aload_n hx hb dL_law_1277 rfl (lv_at hl 1 rfl) ?_
  refine lv_aload_n hx hb dL_law_1278 rfl (lv_at hl 0 rfl) ?_
  refine lv_iload hx hb dL_law_1279 (lv_at hl 5 rfl) ?_
  refine lv_iconst (v := 1) hx hb dL_law_1281 (by decide) ?_
  refine mz_addN hx hb i 1 dL_law_1282 ?_
  refine la_sld hx hb hX hbl hbA hS (i + 1) (by omega) hL dL_law_1283 ?_
  refine lv_aload_n hx hb dL_law_1284 rfl (lv_at hl 3 rfl) ?_
  have hPw : va_P E.1 vwCl ((dC E ad S zs rn dy bn cn tn) ++ [oL E o0 f0]) H := hPd.app hPo
  have hDw : va_D (fun q : Nat => s.heap.size ≤ q) ((dC E ad S zs rn dy bn cn tn) ++ [oL E o0 f0]) := (d1 _ _ _ _ _ _ _).app (d2 _) (a12 _ _ _ _ _ _ _ _)
  have hFc := fr_free hDw hS hA
  refine va_calli (vx_runSW (As := [.ref (ad 0), .int (xs (i + 1)), .ref o0]) (rest := []) ⟨hx, hb, hml, hown, hts⟩ (kL_borneOut l hlt E ad S zs rn dy bn cn tn (xs (i + 1)) o0 f0 H.size (by first | omega | assumption | exact h60 | exact h6 | exact h20 | exact h200) (by first | omega | assumption | exact h60 | exact h6 | exact h20 | exact h200) (by first | omega | assumption | exact h60 | exact h6 | exact h20 | exact h200) (hR.2.2.2.2.2.2.2.2.2.2.2)) (vx_cwSW 3 hts gL_law_L_borneOut rfl rfl rfl (by decide +kernel) ⟨Nat.le_of_ble_eq_true rfl, Nat.le_of_ble_eq_true rfl⟩) ⟨fb_Y, fun U hU hW => ⟨rfl, by rw [hU], by rw [hU]; exact hPw, hDw.weaken (fun _ _ _ _ => trivial), hE.warm hW, hU9.to hS hFc hU hW⟩⟩ rfl rfl hl.1 rfl (lv_room (Nat.le_of_ble_eq_true rfl)) dL_law_1285 ⟨by show _ ≤ 601024; omega, by show _ ≤ 7293034; omega⟩) hS (fun q _ h => hFc q h) hFc (fun r9 k t H1 locs ht hvm hw hB hz1 hk1 hS => ?_)
  obtain ⟨hr9, hk9⟩ := hw
  subst hr9
  rw [ht] at hB
  have hPm := ap_keep (ap.both (a13 _ _ _ _ _ _ _ _ _ _ _ _ _ _ _ _ _ _ _ _) (a23 _ _ _ _ _ _ _ _ _ _ _ _ _ _)) hPm hk1
  have hPg := ap_keep (ap.both (a14 _ _ _ _ _ _ _ _) (a24 _ _)) hPg hk1
  have hle9 := tBor_le (xs (i + 1))
  rcases Nat.eq_zero_or_pos k with hk0 | hk0
  · subst hk0
    have hB : va_P E.1 vwCl ((dC E ad S zs rn dy bn cn tn) ++ [oL E o0 (vp_updL f0 0 (Int32.toInt64 (bcD S zs rn (xs (i + 1)) (dy + 1))))]) H1 := hB
    have hPd := fr_l hB
    have hPo := fr_r hB
    clear hPw hDw hFc
    generalize H1 = H at hPd hPo hPm hPg hS ⊢
    refine lv_istore (lv' := [(6, .int 0), (0, .ref b), (1, .ref (ad 0)), (2, .ref (mm 0)), (3, .ref o0), (4, .ref d0), (5, .int (nI i))]) hx hb dL_law_1288 hl (by decide) rfl (fun ls hl => ?_)
    refine lv_aload_n hx hb dL_law_1290 rfl (lv_at hl 3 rfl) ?_
    refine lv_aload_n hx hb dL_law_1291 rfl (lv_at hl 1 rfl) ?_
    refine lv_iload hx hb dL_law_1292 (lv_at hl 6 rfl) ?_
    refine lv_iconst (v := 1) hx hb dL_law_1294 (by decide) ?_
    refine mz_addN hx hb i 1 dL_law_1295 ?_
    refine la_sld hx hb hX hbl hbA hS (i + 1) (by omega) hL dL_law_1296 ?_
    have hDc : va_D (fun q : Nat => s.heap.size ≤ q) (mC E mm th dy rn cn tn NU WE AT zs BU AV LS LT) := d3 _ _ _ _ _ _ _ _ _ _ _ _ _
    have hFc := fr_free hDc hS hA
    refine va_calli (va_runV (As := [.int (xs (i + 1))]) (rest := []) ⟨hx, hb, hml, hown, hts⟩ (kX5_borneOut l E (mm 0) (mm 1) (mm 2) (mm 3) (mm 4) (mm 5) (mm 6) (mm 7) (mm 8) th dy rn cn tn NU WE AT zs BU AV LS LT (xs (i + 1)) H.size (by first | omega | assumption | exact hz) (by first | omega | assumption | exact hz) (by first | omega | assumption | exact hz) (hR.hlB) (by first | omega | assumption | exact hz)) (cwV 1 hts gL_law_X5_borneOut rfl rfl rfl (by decide +kernel) ⟨Nat.le_of_ble_eq_true rfl, Nat.le_of_ble_eq_true rfl⟩) ⟨fb_W, va_recv hE.1 hPm (ci := 5) (q0 := 0) rfl rfl, fun U hU hW => ⟨rfl, by rw [hU], by rw [hU]; exact hPm, hDc.weaken (fun _ _ _ _ => trivial), hE.warm hW⟩⟩ rfl rfl hl.1 rfl (lv_room (Nat.le_of_ble_eq_true rfl)) dL_law_1297 ⟨by show _ ≤ 601024; omega, by show _ ≤ 7293034; omega⟩) hS (fun q _ h => hFc q h) hFc (fun r1297 u t H1 locs ht hvm hw hB hz1 hk1 hS => ?_)
    rw [ht] at hB
    have hPd := ap_keep (a13 _ _ _ _ _ _ _ _ _ _ _ _ _ _ _ _ _ _ _ _).comm hPd hk1
    have hPo := ap_keep (a23 _ _ _ _ _ _ _ _ _ _ _ _ _ _).comm hPo hk1
    have hPg := ap_keep (a34 _ _ _ _ _ _ _ _ _ _ _ _ _ _) hPg hk1
    obtain ⟨hk5, hw⟩ := hw
    have e5 : u = 0 := hk5.trans hk9.symm
    subst e5
    have hw := hw rfl
    have hPm : va_P E.1 vwCl (mC E mm 0 dy rn cn tn NU WE AT zs BU AV LS LT) H1 := hB
    clear hDc hFc
    generalize H1 = H at hPd hPo hPm hPg hS ⊢
    subst hw
    have heq := op_borneOut hR (xs (i + 1))
    refine lv_istore (lv' := [(7, .int (boD BU AV cn zs (xs (i + 1)) 61)), (6, .int 0), (0, .ref b), (1, .ref (ad 0)), (2, .ref (mm 0)), (3, .ref o0), (4, .ref d0), (5, .int (nI i))]) hx hb dL_law_1300 hl (by decide) rfl (fun ls hl => ?_)
    refine lv_aload_n hx hb dL_law_1302 rfl (lv_at hl 4 rfl) ?_
    have hPt : va_P E.1 vwCl [(mm 0, .inr (5, [.int 0, .int (nI dy), .int (nI rn), .ref (mm 1), .ref (mm 2), .ref (mm 3), .ref (mm 4), .ref (mm 5), .int (nI cn), .ref (mm 6), .int (nI tn), .ref (mm 7), .ref (mm 8)]))] H := hPm.sub [0] rfl
    refine va_calli (va_runV (As := []) (rest := []) ⟨hx, hb, hml, hown, hts⟩ (kX5_thrown l E (mm 0) (mm 1) (mm 2) (mm 3) (mm 4) (mm 5) (mm 6) (mm 7) (mm 8) 0 dy rn cn tn ) (cwV 0 hts gL_law_X5_thrown rfl rfl rfl (by decide +kernel) ⟨Nat.le_of_ble_eq_true rfl, Nat.le_of_ble_eq_true rfl⟩) ⟨fb_R, va_recv hE.1 hPm (ci := 5) (q0 := 0) rfl rfl, fun U hU hW => ⟨rfl, by rw [hU]; exact hPt, hE.warm hW⟩⟩ rfl rfl hl.1 rfl (lv_room (Nat.le_of_ble_eq_true rfl)) dL_law_1303 ⟨by show _ ≤ 601024; omega, by show _ ≤ 7293034; omega⟩) hS (fun q _ h => h.elim) (fun q h => h.elim) (fun r1303 u t H1 locs ht hvm hw hB hz1 hk1 hS => ?_)
    have hPd := hPd.ro hk1
    have hPo := hPo.ro hk1
    have hPm := hPm.ro hk1
    have hPg := hPg.ro hk1
    generalize H1 = H at hPd hPo hPm hPg hS ⊢
    subst hw
    refine lv_iload hx hb dL_law_1306 (lv_at hl 1 rfl) ?_
    refine mz_eqN hx hb 0 0 (tgt := 1313) dL_law_1308 (by decide) (by omega) (by omega) (fun _ => ?_) (fun c9 => absurd rfl c9)
    refine lv_iload hx hb dL_law_1313 (lv_at hl 1 rfl) ?_
    refine lv_if_ne (tgt := 1330) hx hb dL_law_1315 (by decide) (fun c9 => absurd rfl c9) (fun _ => ?_)
    refine lv_aload_n hx hb dL_law_1318 rfl (lv_at hl 5 rfl) ?_
    refine lv_iconst (v := 0) hx hb dL_law_1319 (by decide) ?_
    refine la_lld hx hb hE hPo dL_law_1320 ?_
    refine lv_iload hx hb dL_law_1321 (lv_at hl 0 rfl) ?_
    refine lv_i2l hx hb dL_law_1323 rfl ?_
    refine la_eqL hx hb (congrArg Int32.toInt64 heq) (tgt := 1330) dL_law_1324 dL_law_1325 (by decide) ?_
    refine lv_goto (tgt := 1642) hx hb dL_law_1330 (by decide) ?_
    refine W.widen (k := cl + 740) (n := sl + 3700) (by omega) (by omega) ?_
    exact K _ _ _ ⟨_, _, _, _, _, _, _, _, _, _, _, _, _, _, _, _, _, hR, hPd, hPo, hPm, hPg⟩ hS (lv_sub hl [2, 3, 4, 5, 6, 7] rfl)
  · obtain ⟨k, rfl⟩ : ∃ k9, k = k9 + 1 := ⟨k - 1, by omega⟩
    have hB : va_P E.1 vwCl ((dC E ad S zs rn dy bn cn tn) ++ [oL E o0 f0]) H1 := hB
    have hPd := fr_l hB
    have hPo := fr_r hB
    clear hPw hDw hFc
    generalize H1 = H at hPd hPo hPm hPg hS ⊢
    refine lv_istore (lv' := [(6, .int (nI (k + 1))), (0, .ref b), (1, .ref (ad 0)), (2, .ref (mm 0)), (3, .ref o0), (4, .ref d0), (5, .int (nI i))]) hx hb dL_law_1288 hl (by decide) rfl (fun ls hl => ?_)
    refine lv_aload_n hx hb dL_law_1290 rfl (lv_at hl 3 rfl) ?_
    refine lv_aload_n hx hb dL_law_1291 rfl (lv_at hl 1 rfl) ?_
    refine lv_iload hx hb dL_law_1292 (lv_at hl 6 rfl) ?_
    refine lv_iconst (v := 1) hx hb dL_law_1294 (by decide) ?_
    refine mz_addN hx hb i 1 dL_law_1295 ?_
    refine la_sld hx hb hX hbl hbA hS (i + 1) (by omega) hL dL_law_1296 ?_
    have hDc : va_D (fun q : Nat => s.heap.size ≤ q) (mC E mm th dy rn cn tn NU WE AT zs BU AV LS LT) := d3 _ _ _ _ _ _ _ _ _ _ _ _ _
    have hFc := fr_free hDc hS hA
    refine va_calli (va_runV (As := [.int (xs (i + 1))]) (rest := []) ⟨hx, hb, hml, hown, hts⟩ (kX5_borneOut l E (mm 0) (mm 1) (mm 2) (mm 3) (mm 4) (mm 5) (mm 6) (mm 7) (mm 8) th dy rn cn tn NU WE AT zs BU AV LS LT (xs (i + 1)) H.size (by first | omega | assumption | exact hz) (by first | omega | assumption | exact hz) (by first | omega | assumption | exact hz) (hR.hlB) (by first | omega | assumption | exact hz)) (cwV 1 hts gL_law_X5_borneOut rfl rfl rfl (by decide +kernel) ⟨Nat.le_of_ble_eq_true rfl, Nat.le_of_ble_eq_true rfl⟩) ⟨fb_W, va_recv hE.1 hPm (ci := 5) (q0 := 0) rfl rfl, fun U hU hW => ⟨rfl, by rw [hU], by rw [hU]; exact hPm, hDc.weaken (fun _ _ _ _ => trivial), hE.warm hW⟩⟩ rfl rfl hl.1 rfl (lv_room (Nat.le_of_ble_eq_true rfl)) dL_law_1297 ⟨by show _ ≤ 601024; omega, by show _ ≤ 7293034; omega⟩) hS (fun q _ h => hFc q h) hFc (fun r1297 u t H1 locs ht hvm hw hB hz1 hk1 hS => ?_)
    rw [ht] at hB
    have hPd := ap_keep (a13 _ _ _ _ _ _ _ _ _ _ _ _ _ _ _ _ _ _ _ _).comm hPd hk1
    have hPo := ap_keep (a23 _ _ _ _ _ _ _ _ _ _ _ _ _ _).comm hPo hk1
    have hPg := ap_keep (a34 _ _ _ _ _ _ _ _ _ _ _ _ _ _) hPg hk1
    obtain ⟨hk5, hw⟩ := hw
    have e5 : u = k + 1 := hk5.trans hk9.symm
    subst e5
    have hPm : va_P E.1 vwCl (mC E mm (nI (k + 1)) dy rn cn tn NU WE AT zs BU AV LS LT) H1 := hB
    clear hDc hFc
    generalize H1 = H at hPd hPo hPm hPg hS ⊢
    refine lv_istore (lv' := [(7, .int r1297), (6, .int (nI (k + 1))), (0, .ref b), (1, .ref (ad 0)), (2, .ref (mm 0)), (3, .ref o0), (4, .ref d0), (5, .int (nI i))]) hx hb dL_law_1300 hl (by decide) rfl (fun ls hl => ?_)
    refine lv_aload_n hx hb dL_law_1302 rfl (lv_at hl 4 rfl) ?_
    have hPt : va_P E.1 vwCl [(mm 0, .inr (5, [.int (nI (k + 1)), .int (nI dy), .int (nI rn), .ref (mm 1), .ref (mm 2), .ref (mm 3), .ref (mm 4), .ref (mm 5), .int (nI cn), .ref (mm 6), .int (nI tn), .ref (mm 7), .ref (mm 8)]))] H := hPm.sub [0] rfl
    refine va_calli (va_runV (As := []) (rest := []) ⟨hx, hb, hml, hown, hts⟩ (kX5_thrown l E (mm 0) (mm 1) (mm 2) (mm 3) (mm 4) (mm 5) (mm 6) (mm 7) (mm 8) (nI (k + 1)) dy rn cn tn ) (cwV 0 hts gL_law_X5_thrown rfl rfl rfl (by decide +kernel) ⟨Nat.le_of_ble_eq_true rfl, Nat.le_of_ble_eq_true rfl⟩) ⟨fb_R, va_recv hE.1 hPm (ci := 5) (q0 := 0) rfl rfl, fun U hU hW => ⟨rfl, by rw [hU]; exact hPt, hE.warm hW⟩⟩ rfl rfl hl.1 rfl (lv_room (Nat.le_of_ble_eq_true rfl)) dL_law_1303 ⟨by show _ ≤ 601024; omega, by show _ ≤ 7293034; omega⟩) hS (fun q _ h => h.elim) (fun q h => h.elim) (fun r1303 u t H1 locs ht hvm hw hB hz1 hk1 hS => ?_)
    have hPd := hPd.ro hk1
    have hPo := hPo.ro hk1
    have hPm := hPm.ro hk1
    have hPg := hPg.ro hk1
    generalize H1 = H at hPd hPo hPm hPg hS ⊢
    subst hw
    refine lv_iload hx hb dL_law_1306 (lv_at hl 1 rfl) ?_
    refine mz_eqN hx hb (k + 1) (k + 1) (tgt := 1313) dL_law_1308 (by decide) (by omega) (by omega) (fun _ => ?_) (fun c9 => absurd rfl c9)
    refine lv_iload hx hb dL_law_1313 (lv_at hl 1 rfl) ?_
    refine mz_ifneN hx hb (k + 1) (tgt := 1330) dL_law_1315 (by decide) (by omega) (fun _ => ?_) (fun c9 => absurd c9 (by omega))
    refine lv_goto (tgt := 1642) hx hb dL_law_1330 (by decide) ?_
    refine W.widen (k := cl + 740) (n := sl + 3700) (by omega) (by omega) ?_
    exact K _ _ _ ⟨_, _, _, _, _, _, _, _, _, _, _, _, _, _, _, _, _, hR, hPd, hPo, hPm, hPg⟩ hS (lv_sub hl [2, 3, 4, 5, 6, 7] rfl)
set_option maxHeartbeats 4000000 in
set_option maxRecDepth 100000 in
theorem arm_inCore {p : Program} {e : Env} {s : State} {m : MethodId} {below : List Frame} {meth : Method} {c : Code} (l : Launch) (hlt : l.stackTraces = false) {b L : Nat} {xs : Nat → Int32} (hL : L ≤ 3072) (C0 : lw_At p s m meth c b L xs) {E : ev_T} {ad mm : Nat → Nat} {o0 d0 : Nat} (hE : ev_U E s) (hU9 : ex_U (fun q : Nat => s.heap.size ≤ q) s s.heap) (hLD : LD E ad mm o0 d0 (fun q : Nat => s.heap.size ≤ q)) {i cl sl : Nat} (hi : i + 6 ≤ L) (hcl : cl + 740 ≤ 601024) (hsl : sl + 3700 ≤ 7293034)
    (K : ∀ (H : Heap) (locs : List Loc) (ls : Array Slot), LX E ad mm o0 d0 H → va_S (fun q : Nat => s.heap.size ≤ q) s.heap H locs → lv_has ls 9 [(0, .ref b), (1, .ref (ad 0)), (2, .ref (mm 0)), (3, .ref o0), (4, .ref d0), (5, .int (nI i))] → W p l e room_1 s m #[Value.ref b] below meth c H locs (cl + 740) (sl + 3700) (lw_Z below #[Value.ref b] s) (F0 m 1642 ls []))
    {H : Heap} {locs : List Loc} {ls : Array Slot} (hX0 : LX E ad mm o0 d0 H) (hS : va_S (fun q : Nat => s.heap.size ≤ q) s.heap H locs) (hl : lv_has ls 9 [(0, .ref b), (1, .ref (ad 0)), (2, .ref (mm 0)), (3, .ref o0), (4, .ref d0), (5, .int (nI i))]) : W p l e room_1 s m #[Value.ref b] below meth c H locs cl sl (lw_Z below #[Value.ref b] s) (F0 m 1333 ls []) := by
  obtain ⟨hx, hb, hr, hml, hown, hts0, hX, hbl, hlocks, hgv⟩ := id C0
  have hts : ∀ w ∈ wsL_law, w.before #[Value.ref b] s = true := fun w h => hts0 w (wsL_law_in w h)
  have hown : s.vm.findClass RL = some m.cls := hown
  obtain ⟨S, zs, rn, dy, bn, cn, tn, th, NU, WE, AT, BU, AV, LS, LT, f0, g0, hR, hPd, hPo, hPm, hPg⟩ := hX0
  obtain ⟨d1, d2, d3, d4, a12, a13, a14, a23, a24, a34⟩ := hLD
  have hA : ∀ q : Nat, s.heap.size ≤ q → (fun q : Nat => s.heap.size ≤ q) q := fun _ h => h
  have hbA : ¬ (fun q : Nat => s.heap.size ≤ q) b := Nat.not_le.mpr hbl
  obtain ⟨h6, h60, h200, h20⟩ := hR.1
  have hz := hR.hz
  refine lv_aload_n hx hb dL_law_1333 rfl (lv_at hl 1 rfl) ?_
  refine lv_aload_n hx hb dL_law_1334 rfl (lv_at hl 0 rfl) ?_
  refine lv_iload hx hb dL_law_1335 (lv_at hl 5 rfl) ?_
  refine lv_iconst (v := 1) hx hb dL_law_1337 (by decide) ?_
  refine mz_addN hx hb i 1 dL_law_1338 ?_
  refine la_sld hx hb hX hbl hbA hS (i + 1) (by omega) hL dL_law_1339 ?_
  refine lv_aload hx hb dL_law_1340 (lv_at hl 4 rfl) ?_
  have hPw : va_P E.1 vwCl ((dC E ad S zs rn dy bn cn tn) ++ [oD E d0 g0]) H := hPd.app hPg
  have hDw : va_D (fun q : Nat => s.heap.size ≤ q) ((dC E ad S zs rn dy bn cn tn) ++ [oD E d0 g0]) := (d1 _ _ _ _ _ _ _).app (d4 _) (a14 _ _ _ _ _ _ _ _)
  have hFc := fr_free hDw hS hA
  refine va_calli (vx_runSW (As := [.ref (ad 0), .int (xs (i + 1)), .ref d0]) (rest := []) ⟨hx, hb, hml, hown, hts⟩ (kL_inCore l hlt E ad S zs rn dy bn cn tn (xs (i + 1)) d0 g0 H.size (by first | omega | assumption | exact h60 | exact h6 | exact h20 | exact h200) (by first | omega | assumption | exact h60 | exact h6 | exact h20 | exact h200) (by first | omega | assumption | exact h60 | exact h6 | exact h20 | exact h200) (by first | omega | assumption | exact h60 | exact h6 | exact h20 | exact h200)) (vx_cwSW 3 hts gL_law_L_inCore rfl rfl rfl (by decide +kernel) ⟨Nat.le_of_ble_eq_true rfl, Nat.le_of_ble_eq_true rfl⟩) ⟨fb_Y, fun U hU hW => ⟨rfl, by rw [hU], by rw [hU]; exact hPw, hDw.weaken (fun _ _ _ _ => trivial), hE.warm hW, hU9.to hS hFc hU hW⟩⟩ rfl rfl hl.1 rfl (lv_room (Nat.le_of_ble_eq_true rfl)) dL_law_1342 ⟨by show _ ≤ 601024; omega, by show _ ≤ 7293034; omega⟩) hS (fun q _ h => hFc q h) hFc (fun r9 k t H1 locs ht hvm hw hB hz1 hk1 hS => ?_)
  obtain ⟨hr9, hk9⟩ := hw
  subst hr9
  rw [ht] at hB
  have hPm := ap_keep (ap.both (a13 _ _ _ _ _ _ _ _ _ _ _ _ _ _ _ _ _ _ _ _) ((a34 _ _ _ _ _ _ _ _ _ _ _ _ _ _).comm)) hPm hk1
  have hPo := ap_keep (ap.both (a12 _ _ _ _ _ _ _ _) (a24 _ _).comm) hPo hk1
  have hle9 := tReg_le (xs (i + 1)) rn
  rcases Nat.eq_zero_or_pos k with hk0 | hk0
  · subst hk0
    have hB : va_P E.1 vwCl ((dC E ad S zs rn dy bn cn tn) ++ [oD E d0 (vf_upd g0 0 (icR S zs (Int32.toNatClampNeg (xs (i + 1))) cn))]) H1 := hB
    have hPd := fr_l hB
    have hPg := fr_r hB
    clear hPw hDw hFc
    generalize H1 = H at hPd hPo hPm hPg hS ⊢
    refine lv_istore (lv' := [(6, .int 0), (0, .ref b), (1, .ref (ad 0)), (2, .ref (mm 0)), (3, .ref o0), (4, .ref d0), (5, .int (nI i))]) hx hb dL_law_1345 hl (by decide) rfl (fun ls hl => ?_)
    refine lv_aload_n hx hb dL_law_1347 rfl (lv_at hl 3 rfl) ?_
    refine lv_aload_n hx hb dL_law_1348 rfl (lv_at hl 1 rfl) ?_
    refine lv_iload hx hb dL_law_1349 (lv_at hl 6 rfl) ?_
    refine lv_iconst (v := 1) hx hb dL_law_1351 (by decide) ?_
    refine mz_addN hx hb i 1 dL_law_1352 ?_
    refine la_sld hx hb hX hbl hbA hS (i + 1) (by omega) hL dL_law_1353 ?_
    have hDc : va_D (fun q : Nat => s.heap.size ≤ q) (mC E mm th dy rn cn tn NU WE AT zs BU AV LS LT) := d3 _ _ _ _ _ _ _ _ _ _ _ _ _
    have hFc := fr_free hDc hS hA
    refine va_calld (va_runV (As := [.int (xs (i + 1))]) (rest := []) ⟨hx, hb, hml, hown, hts⟩ (kX5_inCore l E (mm 0) (mm 1) (mm 2) (mm 3) (mm 4) (mm 5) (mm 6) (mm 7) (mm 8) th dy rn cn tn NU WE AT zs BU AV LS LT (xs (i + 1)) H.size (by first | omega | assumption | exact hz) (by first | omega | assumption | exact hz) (by first | omega | assumption | exact hz) (by first | omega | assumption | exact hz) (fun k9 hk => (hR.2.2.2.2.2.2.2.2.1 k9 hk).2.2.2)) (cwV 1 hts gL_law_X5_inCore rfl rfl rfl (by decide +kernel) ⟨Nat.le_of_ble_eq_true rfl, Nat.le_of_ble_eq_true rfl⟩) ⟨fb_W, va_recv hE.1 hPm (ci := 5) (q0 := 0) rfl rfl, fun U hU hW => ⟨rfl, by rw [hU], by rw [hU]; exact hPm, hDc.weaken (fun _ _ _ _ => trivial), hE.warm hW⟩⟩ rfl rfl hl.1 rfl (lv_room (Nat.le_of_ble_eq_true rfl)) dL_law_1354 ⟨by show _ ≤ 601024; omega, by show _ ≤ 7293034; omega⟩) hS (fun q _ h => hFc q h) hFc (fun r1354 u t H1 locs ht hvm hw hB hz1 hk1 hS => ?_)
    rw [ht] at hB
    have hPd := ap_keep (a13 _ _ _ _ _ _ _ _ _ _ _ _ _ _ _ _ _ _ _ _).comm hPd hk1
    have hPo := ap_keep (a23 _ _ _ _ _ _ _ _ _ _ _ _ _ _).comm hPo hk1
    have hPg := ap_keep (a34 _ _ _ _ _ _ _ _ _ _ _ _ _ _) hPg hk1
    obtain ⟨hk5, hw⟩ := hw
    have e5 : u = 0 := hk5.trans hk9.symm
    subst e5
    have hw := hw rfl
    have hPm : va_P E.1 vwCl (mC E mm 0 dy rn cn tn NU WE AT zs BU AV LS LT) H1 := hB
    clear hDc hFc
    generalize H1 = H at hPd hPo hPm hPg hS ⊢
    subst hw
    have heq := op_inCore hR (xs (i + 1)) hk9
    refine lv_dstore (lv' := [(7, .double (jcR BU AV zs (Int32.toNatClampNeg (xs (i + 1))) cn)), (6, .int 0), (0, .ref b), (1, .ref (ad 0)), (2, .ref (mm 0)), (3, .ref o0), (4, .ref d0), (5, .int (nI i))]) hx hb dL_law_1357 hl (by decide) rfl (fun ls hl => ?_)
    refine lv_aload_n hx hb dL_law_1359 rfl (lv_at hl 4 rfl) ?_
    have hPt : va_P E.1 vwCl [(mm 0, .inr (5, [.int 0, .int (nI dy), .int (nI rn), .ref (mm 1), .ref (mm 2), .ref (mm 3), .ref (mm 4), .ref (mm 5), .int (nI cn), .ref (mm 6), .int (nI tn), .ref (mm 7), .ref (mm 8)]))] H := hPm.sub [0] rfl
    refine va_calli (va_runV (As := []) (rest := []) ⟨hx, hb, hml, hown, hts⟩ (kX5_thrown l E (mm 0) (mm 1) (mm 2) (mm 3) (mm 4) (mm 5) (mm 6) (mm 7) (mm 8) 0 dy rn cn tn ) (cwV 0 hts gL_law_X5_thrown rfl rfl rfl (by decide +kernel) ⟨Nat.le_of_ble_eq_true rfl, Nat.le_of_ble_eq_true rfl⟩) ⟨fb_R, va_recv hE.1 hPm (ci := 5) (q0 := 0) rfl rfl, fun U hU hW => ⟨rfl, by rw [hU]; exact hPt, hE.warm hW⟩⟩ rfl rfl hl.1 rfl (lv_room (Nat.le_of_ble_eq_true rfl)) dL_law_1360 ⟨by show _ ≤ 601024; omega, by show _ ≤ 7293034; omega⟩) hS (fun q _ h => h.elim) (fun q h => h.elim) (fun r1360 u t H1 locs ht hvm hw hB hz1 hk1 hS => ?_)
    have hPd := hPd.ro hk1
    have hPo := hPo.ro hk1
    have hPm := hPm.ro hk1
    have hPg := hPg.ro hk1
    generalize H1 = H at hPd hPo hPm hPg hS ⊢
    subst hw
    refine lv_iload hx hb dL_law_1363 (lv_at hl 1 rfl) ?_
    refine mz_eqN hx hb 0 0 (tgt := 1370) dL_law_1365 (by decide) (by omega) (by omega) (fun _ => ?_) (fun c9 => absurd rfl c9)
    refine lv_iload hx hb dL_law_1370 (lv_at hl 1 rfl) ?_
    refine lv_if_ne (tgt := 1407) hx hb dL_law_1372 (by decide) (fun c9 => absurd rfl c9) (fun _ => ?_)
    refine lv_aload hx hb dL_law_1375 (lv_at hl 6 rfl) ?_
    refine lv_iconst (v := 0) hx hb dL_law_1377 (by decide) ?_
    refine la_dld hx hb hE hPg dL_law_1378 ?_
    refine lv_dload hx hb dL_law_1379 (lv_at hl 0 rfl) ?_
    have hxy : jcR BU AV zs (Int32.toNatClampNeg (xs (i + 1))) cn = (vf_upd g0 0 (icR S zs (Int32.toNatClampNeg (xs (i + 1))) cn)) 0 := heq.symm
    rw [hxy] at hl ⊢
    refine lv_dcmp hx hb dL_law_1381 ?_
    obtain ⟨v9, hv9⟩ : ∃ v, v = Op.cmpValue (FP.dcmp ((vf_upd g0 0 (icR S zs (Int32.toNatClampNeg (xs (i + 1))) cn)) 0) ((vf_upd g0 0 (icR S zs (Int32.toNatClampNeg (xs (i + 1))) cn)) 0)) .l := ⟨_, rfl⟩
    rw [← hv9]
    refine lv_if_eq (tgt := 1407) hx hb dL_law_1382 (by decide) (fun hv => ?_) (fun hv => ?_)
    · refine lv_goto (tgt := 1642) hx hb dL_law_1407 (by decide) ?_
      refine W.widen (k := cl + 740) (n := sl + 3700) (by omega) (by omega) ?_
      exact K _ _ _ ⟨_, _, _, _, _, _, _, _, _, _, _, _, _, _, _, _, _, hR, hPd, hPo, hPm, hPg⟩ hS (lv_sub hl [2, 3, 4, 5, 6, 7] rfl)
    · refine lv_aload hx hb dL_law_1385 (lv_at hl 6 rfl) ?_
      refine lv_iconst (v := 0) hx hb dL_law_1387 (by decide) ?_
      refine la_dld hx hb hE hPg dL_law_1388 ?_
      refine lv_aload hx hb dL_law_1389 (lv_at hl 6 rfl) ?_
      refine lv_iconst (v := 0) hx hb dL_law_1391 (by decide) ?_
      refine la_dld hx hb hE hPg dL_law_1392 ?_
      refine lv_dcmp hx hb dL_law_1393 ?_
      rw [← hv9]
      refine lv_if_eq (tgt := 1405) hx hb dL_law_1394 (by decide) (fun c9 => absurd c9 hv) (fun _ => ?_)
      refine lv_dload hx hb dL_law_1397 (lv_at hl 0 rfl) ?_
      refine lv_dload hx hb dL_law_1399 (lv_at hl 0 rfl) ?_
      refine lv_dcmp hx hb dL_law_1401 ?_
      rw [← hv9]
      refine lv_if_ne (tgt := 1407) hx hb dL_law_1402 (by decide) (fun _ => ?_) (fun c9 => absurd c9 hv)
      refine lv_goto (tgt := 1642) hx hb dL_law_1407 (by decide) ?_
      refine W.widen (k := cl + 740) (n := sl + 3700) (by omega) (by omega) ?_
      exact K _ _ _ ⟨_, _, _, _, _, _, _, _, _, _, _, _, _, _, _, _, _, hR, hPd, hPo, hPm, hPg⟩ hS (lv_sub hl [2, 3, 4, 5, 6, 7] rfl)
  · obtain ⟨k, rfl⟩ : ∃ k9, k = k9 + 1 := ⟨k - 1, by omega⟩
    have hB : va_P E.1 vwCl ((dC E ad S zs rn dy bn cn tn) ++ [oD E d0 g0]) H1 := hB
    have hPd := fr_l hB
    have hPg := fr_r hB
    clear hPw hDw hFc
    generalize H1 = H at hPd hPo hPm hPg hS ⊢
    refine lv_istore (lv' := [(6, .int (nI (k + 1))), (0, .ref b), (1, .ref (ad 0)), (2, .ref (mm 0)), (3, .ref o0), (4, .ref d0), (5, .int (nI i))]) hx hb dL_law_1345 hl (by decide) rfl (fun ls hl => ?_)
    refine lv_aload_n hx hb dL_law_1347 rfl (lv_at hl 3 rfl) ?_
    refine lv_aload_n hx hb dL_law_1348 rfl (lv_at hl 1 rfl) ?_
    refine lv_iload hx hb dL_law_1349 (lv_at hl 6 rfl) ?_
    refine lv_iconst (v := 1) hx hb dL_law_1351 (by decide) ?_
    refine mz_addN hx hb i 1 dL_law_1352 ?_
    refine la_sld hx hb hX hbl hbA hS (i + 1) (by omega) hL dL_law_1353 ?_
    have hDc : va_D (fun q : Nat => s.heap.size ≤ q) (mC E mm th dy rn cn tn NU WE AT zs BU AV LS LT) := d3 _ _ _ _ _ _ _ _ _ _ _ _ _
    have hFc := fr_free hDc hS hA
    refine va_calld (va_runV (As := [.int (xs (i + 1))]) (rest := []) ⟨hx, hb, hml, hown, hts⟩ (kX5_inCore l E (mm 0) (mm 1) (mm 2) (mm 3) (mm 4) (mm 5) (mm 6) (mm 7) (mm 8) th dy rn cn tn NU WE AT zs BU AV LS LT (xs (i + 1)) H.size (by first | omega | assumption | exact hz) (by first | omega | assumption | exact hz) (by first | omega | assumption | exact hz) (by first | omega | assumption | exact hz) (fun k9 hk => (hR.2.2.2.2.2.2.2.2.1 k9 hk).2.2.2)) (cwV 1 hts gL_law_X5_inCore rfl rfl rfl (by decide +kernel) ⟨Nat.le_of_ble_eq_true rfl, Nat.le_of_ble_eq_true rfl⟩) ⟨fb_W, va_recv hE.1 hPm (ci := 5) (q0 := 0) rfl rfl, fun U hU hW => ⟨rfl, by rw [hU], by rw [hU]; exact hPm, hDc.weaken (fun _ _ _ _ => trivial), hE.warm hW⟩⟩ rfl rfl hl.1 rfl (lv_room (Nat.le_of_ble_eq_true rfl)) dL_law_1354 ⟨by show _ ≤ 601024; omega, by show _ ≤ 7293034; omega⟩) hS (fun q _ h => hFc q h) hFc (fun r1354 u t H1 locs ht hvm hw hB hz1 hk1 hS => ?_)
    rw [ht] at hB
    have hPd := ap_keep (a13 _ _ _ _ _ _ _ _ _ _ _ _ _ _ _ _ _ _ _ _).comm hPd hk1
    have hPo := ap_keep (a23 _ _ _ _ _ _ _ _ _ _ _ _ _ _).comm hPo hk1
    have hPg := ap_keep (a34 _ _ _ _ _ _ _ _ _ _ _ _ _ _) hPg hk1
    obtain ⟨hk5, hw⟩ := hw
    have e5 : u = k + 1 := hk5.trans hk9.symm
    subst e5
    have hPm : va_P E.1 vwCl (mC E mm (nI (k + 1)) dy rn cn tn NU WE AT zs BU AV LS LT) H1 := hB
    clear hDc hFc
    generalize H1 = H at hPd hPo hPm hPg hS ⊢
    refine lv_dstore (lv' := [(7, .double r1354), (6, .int (nI (k + 1))), (0, .ref b), (1, .ref (ad 0)), (2, .ref (mm 0)), (3, .ref o0), (4, .ref d0), (5, .int (nI i))]) hx hb dL_law_1357 hl (by decide) rfl (fun ls hl => ?_)
    refine lv_aload_n hx hb dL_law_1359 rfl (lv_at hl 4 rfl) ?_
    have hPt : va_P E.1 vwCl [(mm 0, .inr (5, [.int (nI (k + 1)), .int (nI dy), .int (nI rn), .ref (mm 1), .ref (mm 2), .ref (mm 3), .ref (mm 4), .ref (mm 5), .int (nI cn), .ref (mm 6), .int (nI tn), .ref (mm 7), .ref (mm 8)]))] H := hPm.sub [0] rfl
    refine va_calli (va_runV (As := []) (rest := []) ⟨hx, hb, hml, hown, hts⟩ (kX5_thrown l E (mm 0) (mm 1) (mm 2) (mm 3) (mm 4) (mm 5) (mm 6) (mm 7) (mm 8) (nI (k + 1)) dy rn cn tn ) (cwV 0 hts gL_law_X5_thrown rfl rfl rfl (by decide +kernel) ⟨Nat.le_of_ble_eq_true rfl, Nat.le_of_ble_eq_true rfl⟩) ⟨fb_R, va_recv hE.1 hPm (ci := 5) (q0 := 0) rfl rfl, fun U hU hW => ⟨rfl, by rw [hU]; exact hPt, hE.warm hW⟩⟩ rfl rfl hl.1 rfl (lv_room (Nat.le_of_ble_eq_true rfl)) dL_law_1360 ⟨by show _ ≤ 601024; omega, by show _ ≤ 7293034; omega⟩) hS (fun q _ h => h.elim) (fun q h => h.elim) (fun r1360 u t H1 locs ht hvm hw hB hz1 hk1 hS => ?_)
    have hPd := hPd.ro hk1
    have hPo := hPo.ro hk1
    have hPm := hPm.ro hk1
    have hPg := hPg.ro hk1
    generalize H1 = H at hPd hPo hPm hPg hS ⊢
    subst hw
    refine lv_iload hx hb dL_law_1363 (lv_at hl 1 rfl) ?_
    refine mz_eqN hx hb (k + 1) (k + 1) (tgt := 1370) dL_law_1365 (by decide) (by omega) (by omega) (fun _ => ?_) (fun c9 => absurd rfl c9)
    refine lv_iload hx hb dL_law_1370 (lv_at hl 1 rfl) ?_
    refine mz_ifneN hx hb (k + 1) (tgt := 1407) dL_law_1372 (by decide) (by omega) (fun _ => ?_) (fun c9 => absurd c9 (by omega))
    refine lv_goto (tgt := 1642) hx hb dL_law_1407 (by decide) ?_
    refine W.widen (k := cl + 740) (n := sl + 3700) (by omega) (by omega) ?_
    exact K _ _ _ ⟨_, _, _, _, _, _, _, _, _, _, _, _, _, _, _, _, _, hR, hPd, hPo, hPm, hPg⟩ hS (lv_sub hl [2, 3, 4, 5, 6, 7] rfl)
set_option maxHeartbeats 4000000 in
set_option maxRecDepth 100000 in
theorem arm_addLeg {p : Program} {e : Env} {s : State} {m : MethodId} {below : List Frame} {meth : Method} {c : Code} (l : Launch) (hlt : l.stackTraces = false) {b L : Nat} {xs : Nat → Int32} (hL : L ≤ 3072) (C0 : lw_At p s m meth c b L xs) {E : ev_T} {ad mm : Nat → Nat} {o0 d0 : Nat} (hE : ev_U E s) (hU9 : ex_U (fun q : Nat => s.heap.size ≤ q) s s.heap) (hLD : LD E ad mm o0 d0 (fun q : Nat => s.heap.size ≤ q)) {i cl sl : Nat} (hi : i + 6 ≤ L) (hcl : cl + 740 ≤ 601024) (hsl : sl + 3700 ≤ 7293034)
    (K : ∀ (H : Heap) (locs : List Loc) (ls : Array Slot), LX E ad mm o0 d0 H → va_S (fun q : Nat => s.heap.size ≤ q) s.heap H locs → lv_has ls 9 [(0, .ref b), (1, .ref (ad 0)), (2, .ref (mm 0)), (3, .ref o0), (4, .ref d0), (5, .int (nI i))] → W p l e room_1 s m #[Value.ref b] below meth c H locs (cl + 740) (sl + 3700) (lw_Z below #[Value.ref b] s) (F0 m 1642 ls []))
    {H : Heap} {locs : List Loc} {ls : Array Slot} (hX0 : LX E ad mm o0 d0 H) (hS : va_S (fun q : Nat => s.heap.size ≤ q) s.heap H locs) (hl : lv_has ls 9 [(0, .ref b), (1, .ref (ad 0)), (2, .ref (mm 0)), (3, .ref o0), (4, .ref d0), (5, .int (nI i))]) : W p l e room_1 s m #[Value.ref b] below meth c H locs cl sl (lw_Z below #[Value.ref b] s) (F0 m 1410 ls []) := by
  obtain ⟨hx, hb, hr, hml, hown, hts0, hX, hbl, hlocks, hgv⟩ := id C0
  have hts : ∀ w ∈ wsL_law, w.before #[Value.ref b] s = true := fun w h => hts0 w (wsL_law_in w h)
  have hown : s.vm.findClass RL = some m.cls := hown
  obtain ⟨S, zs, rn, dy, bn, cn, tn, th, NU, WE, AT, BU, AV, LS, LT, f0, g0, hR, hPd, hPo, hPm, hPg⟩ := hX0
  obtain ⟨d1, d2, d3, d4, a12, a13, a14, a23, a24, a34⟩ := hLD
  have hA : ∀ q : Nat, s.heap.size ≤ q → (fun q : Nat => s.heap.size ≤ q) q := fun _ h => h
  have hbA : ¬ (fun q : Nat => s.heap.size ≤ q) b := Nat.not_le.mpr hbl
  obtain ⟨h6, h60, h200, h20⟩ := hR.1
  have hz := hR.hz
  refine lv_aload_n hx hb dL_law_1410 rfl (lv_at hl 1 rfl) ?_
  refine lv_aload_n hx hb dL_law_1411 rfl (lv_at hl 0 rfl) ?_
  refine lv_iload hx hb dL_law_1412 (lv_at hl 5 rfl) ?_
  refine lv_iconst (v := 1) hx hb dL_law_1414 (by decide) ?_
  refine mz_addN hx hb i 1 dL_law_1415 ?_
  refine la_sld hx hb hX hbl hbA hS (i + 1) (by omega) hL dL_law_1416 ?_
  refine lv_aload_n hx hb dL_law_1417 rfl (lv_at hl 0 rfl) ?_
  refine lv_iload hx hb dL_law_1418 (lv_at hl 5 rfl) ?_
  refine lv_iconst (v := 2) hx hb dL_law_1420 (by decide) ?_
  refine mz_addN hx hb i 2 dL_law_1421 ?_
  refine la_sld hx hb hX hbl hbA hS (i + 2) (by omega) hL dL_law_1422 ?_
  refine lv_aload_n hx hb dL_law_1423 rfl (lv_at hl 3 rfl) ?_
  have hPw : va_P E.1 vwCl ((dC E ad S zs rn dy bn cn tn) ++ [oL E o0 f0]) H := hPd.app hPo
  have hDw : va_D (fun q : Nat => s.heap.size ≤ q) ((dC E ad S zs rn dy bn cn tn) ++ [oL E o0 f0]) := (d1 _ _ _ _ _ _ _).app (d2 _) (a12 _ _ _ _ _ _ _ _)
  have hFc := fr_free hDw hS hA
  refine va_calli (vx_runSW (As := [.ref (ad 0), .int (xs (i + 1)), .int (xs (i + 2)), .ref o0]) (rest := []) ⟨hx, hb, hml, hown, hts⟩ (kL_addLeg l hlt E ad S zs rn dy bn cn tn (xs (i + 1)) (xs (i + 2)) o0 f0 H.size (by first | omega | assumption | exact h60 | exact h6 | exact h20 | exact h200) (by first | omega | assumption | exact h60 | exact h6 | exact h20 | exact h200) (by first | omega | assumption | exact h60 | exact h6 | exact h20 | exact h200)) (vx_cwSW 4 hts gL_law_L_addLeg rfl rfl rfl (by decide +kernel) ⟨Nat.le_of_ble_eq_true rfl, Nat.le_of_ble_eq_true rfl⟩) ⟨fb_Y, fun U hU hW => ⟨rfl, by rw [hU], by rw [hU]; exact hPw, hDw.weaken (fun _ _ _ _ => trivial), hE.warm hW, hU9.to hS hFc hU hW⟩⟩ rfl rfl hl.1 rfl (lv_room (Nat.le_of_ble_eq_true rfl)) dL_law_1424 ⟨by show _ ≤ 601024; omega, by show _ ≤ 7293034; omega⟩) hS (fun q _ h => hFc q h) hFc (fun r9 k t H1 locs ht hvm hw hB hz1 hk1 hS => ?_)
  obtain ⟨hr9, hk9⟩ := hw
  subst hr9
  rw [ht] at hB
  have hPm := ap_keep (ap.both (a13 _ _ _ _ _ _ _ _ _ _ _ _ _ _ _ _ _ _ _ _) (a23 _ _ _ _ _ _ _ _ _ _ _ _ _ _)) hPm hk1
  have hPg := ap_keep (ap.both (a14 _ _ _ _ _ _ _ _) (a24 _ _)) hPg hk1
  have hle9 := tLeg_le (xs (i + 1)) (xs (i + 2)) tn
  rcases Nat.eq_zero_or_pos k with hk0 | hk0
  · subst hk0
    have hB : va_P E.1 vwCl ((dC E ad (va_up (va_up S 25 (upd (S 25) tn (xs (i + 1)))) 26 (upd (S 26) tn (xs (i + 2)))) zs rn dy bn cn (tn + 1)) ++ [oL E o0 (vp_updL f0 0 (Int32.toInt64 (nI (tn + 1))))]) H1 := hB
    have hPd := fr_l hB
    have hPo := fr_r hB
    clear hPw hDw hFc
    generalize H1 = H at hPd hPo hPm hPg hS ⊢
    refine lv_istore (lv' := [(6, .int 0), (0, .ref b), (1, .ref (ad 0)), (2, .ref (mm 0)), (3, .ref o0), (4, .ref d0), (5, .int (nI i))]) hx hb dL_law_1427 hl (by decide) rfl (fun ls hl => ?_)
    refine lv_aload_n hx hb dL_law_1429 rfl (lv_at hl 3 rfl) ?_
    refine lv_aload_n hx hb dL_law_1430 rfl (lv_at hl 1 rfl) ?_
    refine lv_iload hx hb dL_law_1431 (lv_at hl 6 rfl) ?_
    refine lv_iconst (v := 1) hx hb dL_law_1433 (by decide) ?_
    refine mz_addN hx hb i 1 dL_law_1434 ?_
    refine la_sld hx hb hX hbl hbA hS (i + 1) (by omega) hL dL_law_1435 ?_
    refine lv_aload_n hx hb dL_law_1436 rfl (lv_at hl 1 rfl) ?_
    refine lv_iload hx hb dL_law_1437 (lv_at hl 6 rfl) ?_
    refine lv_iconst (v := 2) hx hb dL_law_1439 (by decide) ?_
    refine mz_addN hx hb i 2 dL_law_1440 ?_
    refine la_sld hx hb hX hbl hbA hS (i + 2) (by omega) hL dL_law_1441 ?_
    have hDc : va_D (fun q : Nat => s.heap.size ≤ q) (mC E mm th dy rn cn tn NU WE AT zs BU AV LS LT) := d3 _ _ _ _ _ _ _ _ _ _ _ _ _
    have hFc := fr_free hDc hS hA
    refine va_calli (va_runV (As := [.int (xs (i + 1)), .int (xs (i + 2))]) (rest := []) ⟨hx, hb, hml, hown, hts⟩ (kX5_addLeg l E (mm 0) (mm 1) (mm 2) (mm 3) (mm 4) (mm 5) (mm 6) (mm 7) (mm 8) th dy rn cn tn NU WE AT zs BU AV LS LT (xs (i + 1)) (xs (i + 2)) H.size (by first | omega | assumption | exact hz) (by first | omega | assumption | exact hz) (by first | omega | assumption | exact hz)) (cwV 2 hts gL_law_X5_addLeg rfl rfl rfl (by decide +kernel) ⟨Nat.le_of_ble_eq_true rfl, Nat.le_of_ble_eq_true rfl⟩) ⟨fb_W, va_recv hE.1 hPm (ci := 5) (q0 := 0) rfl rfl, fun U hU hW => ⟨rfl, by rw [hU], by rw [hU]; exact hPm, hDc.weaken (fun _ _ _ _ => trivial), hE.warm hW⟩⟩ rfl rfl hl.1 rfl (lv_room (Nat.le_of_ble_eq_true rfl)) dL_law_1442 ⟨by show _ ≤ 601024; omega, by show _ ≤ 7293034; omega⟩) hS (fun q _ h => hFc q h) hFc (fun r1442 u t H1 locs ht hvm hw hB hz1 hk1 hS => ?_)
    rw [ht] at hB
    have hPd := ap_keep (a13 _ _ _ _ _ _ _ _ _ _ _ _ _ _ _ _ _ _ _ _).comm hPd hk1
    have hPo := ap_keep (a23 _ _ _ _ _ _ _ _ _ _ _ _ _ _).comm hPo hk1
    have hPg := ap_keep (a34 _ _ _ _ _ _ _ _ _ _ _ _ _ _) hPg hk1
    obtain ⟨hk5, hw⟩ := hw
    have e5 : u = 0 := hk5.trans hk9.symm
    subst e5
    have hw := hw rfl
    have hPm : va_P E.1 vwCl (mC E mm 0 dy rn cn (tn + 1) NU WE AT zs BU AV (upd LS tn (xs (i + 1))) (upd LT tn (xs (i + 2)))) H1 := hB
    clear hDc hFc
    generalize H1 = H at hPd hPo hPm hPg hS ⊢
    subst hw
    have hR := op_addLeg hR (xs (i + 1)) (xs (i + 2)) hk9
    refine lv_istore (lv' := [(7, .int (nI (tn + 1))), (6, .int 0), (0, .ref b), (1, .ref (ad 0)), (2, .ref (mm 0)), (3, .ref o0), (4, .ref d0), (5, .int (nI i))]) hx hb dL_law_1445 hl (by decide) rfl (fun ls hl => ?_)
    refine lv_aload_n hx hb dL_law_1447 rfl (lv_at hl 4 rfl) ?_
    have hPt : va_P E.1 vwCl [(mm 0, .inr (5, [.int 0, .int (nI dy), .int (nI rn), .ref (mm 1), .ref (mm 2), .ref (mm 3), .ref (mm 4), .ref (mm 5), .int (nI cn), .ref (mm 6), .int (nI (tn + 1)), .ref (mm 7), .ref (mm 8)]))] H := hPm.sub [0] rfl
    refine va_calli (va_runV (As := []) (rest := []) ⟨hx, hb, hml, hown, hts⟩ (kX5_thrown l E (mm 0) (mm 1) (mm 2) (mm 3) (mm 4) (mm 5) (mm 6) (mm 7) (mm 8) 0 dy rn cn (tn + 1) ) (cwV 0 hts gL_law_X5_thrown rfl rfl rfl (by decide +kernel) ⟨Nat.le_of_ble_eq_true rfl, Nat.le_of_ble_eq_true rfl⟩) ⟨fb_R, va_recv hE.1 hPm (ci := 5) (q0 := 0) rfl rfl, fun U hU hW => ⟨rfl, by rw [hU]; exact hPt, hE.warm hW⟩⟩ rfl rfl hl.1 rfl (lv_room (Nat.le_of_ble_eq_true rfl)) dL_law_1448 ⟨by show _ ≤ 601024; omega, by show _ ≤ 7293034; omega⟩) hS (fun q _ h => h.elim) (fun q h => h.elim) (fun r1448 u t H1 locs ht hvm hw hB hz1 hk1 hS => ?_)
    have hPd := hPd.ro hk1
    have hPo := hPo.ro hk1
    have hPm := hPm.ro hk1
    have hPg := hPg.ro hk1
    generalize H1 = H at hPd hPo hPm hPg hS ⊢
    subst hw
    refine lv_iload hx hb dL_law_1451 (lv_at hl 1 rfl) ?_
    refine mz_eqN hx hb 0 0 (tgt := 1458) dL_law_1453 (by decide) (by omega) (by omega) (fun _ => ?_) (fun c9 => absurd rfl c9)
    refine lv_iload hx hb dL_law_1458 (lv_at hl 1 rfl) ?_
    refine lv_if_ne (tgt := 1475) hx hb dL_law_1460 (by decide) (fun c9 => absurd rfl c9) (fun _ => ?_)
    refine lv_aload_n hx hb dL_law_1463 rfl (lv_at hl 5 rfl) ?_
    refine lv_iconst (v := 0) hx hb dL_law_1464 (by decide) ?_
    refine la_lld hx hb hE hPo dL_law_1465 ?_
    refine lv_iload hx hb dL_law_1466 (lv_at hl 0 rfl) ?_
    refine lv_i2l hx hb dL_law_1468 rfl ?_
    refine la_eqL hx hb (rfl) (tgt := 1475) dL_law_1469 dL_law_1470 (by decide) ?_
    refine lv_goto (tgt := 1642) hx hb dL_law_1475 (by decide) ?_
    refine W.widen (k := cl + 740) (n := sl + 3700) (by omega) (by omega) ?_
    exact K _ _ _ ⟨_, _, _, _, _, _, _, _, _, _, _, _, _, _, _, _, _, hR, hPd, hPo, hPm, hPg⟩ hS (lv_sub hl [2, 3, 4, 5, 6, 7] rfl)
  · obtain ⟨k, rfl⟩ : ∃ k9, k = k9 + 1 := ⟨k - 1, by omega⟩
    have hB : va_P E.1 vwCl ((dC E ad S zs rn dy bn cn tn) ++ [oL E o0 f0]) H1 := hB
    have hPd := fr_l hB
    have hPo := fr_r hB
    clear hPw hDw hFc
    generalize H1 = H at hPd hPo hPm hPg hS ⊢
    refine lv_istore (lv' := [(6, .int (nI (k + 1))), (0, .ref b), (1, .ref (ad 0)), (2, .ref (mm 0)), (3, .ref o0), (4, .ref d0), (5, .int (nI i))]) hx hb dL_law_1427 hl (by decide) rfl (fun ls hl => ?_)
    refine lv_aload_n hx hb dL_law_1429 rfl (lv_at hl 3 rfl) ?_
    refine lv_aload_n hx hb dL_law_1430 rfl (lv_at hl 1 rfl) ?_
    refine lv_iload hx hb dL_law_1431 (lv_at hl 6 rfl) ?_
    refine lv_iconst (v := 1) hx hb dL_law_1433 (by decide) ?_
    refine mz_addN hx hb i 1 dL_law_1434 ?_
    refine la_sld hx hb hX hbl hbA hS (i + 1) (by omega) hL dL_law_1435 ?_
    refine lv_aload_n hx hb dL_law_1436 rfl (lv_at hl 1 rfl) ?_
    refine lv_iload hx hb dL_law_1437 (lv_at hl 6 rfl) ?_
    refine lv_iconst (v := 2) hx hb dL_law_1439 (by decide) ?_
    refine mz_addN hx hb i 2 dL_law_1440 ?_
    refine la_sld hx hb hX hbl hbA hS (i + 2) (by omega) hL dL_law_1441 ?_
    have hDc : va_D (fun q : Nat => s.heap.size ≤ q) (mC E mm th dy rn cn tn NU WE AT zs BU AV LS LT) := d3 _ _ _ _ _ _ _ _ _ _ _ _ _
    have hFc := fr_free hDc hS hA
    refine va_calli (va_runV (As := [.int (xs (i + 1)), .int (xs (i + 2))]) (rest := []) ⟨hx, hb, hml, hown, hts⟩ (kX5_addLeg l E (mm 0) (mm 1) (mm 2) (mm 3) (mm 4) (mm 5) (mm 6) (mm 7) (mm 8) th dy rn cn tn NU WE AT zs BU AV LS LT (xs (i + 1)) (xs (i + 2)) H.size (by first | omega | assumption | exact hz) (by first | omega | assumption | exact hz) (by first | omega | assumption | exact hz)) (cwV 2 hts gL_law_X5_addLeg rfl rfl rfl (by decide +kernel) ⟨Nat.le_of_ble_eq_true rfl, Nat.le_of_ble_eq_true rfl⟩) ⟨fb_W, va_recv hE.1 hPm (ci := 5) (q0 := 0) rfl rfl, fun U hU hW => ⟨rfl, by rw [hU], by rw [hU]; exact hPm, hDc.weaken (fun _ _ _ _ => trivial), hE.warm hW⟩⟩ rfl rfl hl.1 rfl (lv_room (Nat.le_of_ble_eq_true rfl)) dL_law_1442 ⟨by show _ ≤ 601024; omega, by show _ ≤ 7293034; omega⟩) hS (fun q _ h => hFc q h) hFc (fun r1442 u t H1 locs ht hvm hw hB hz1 hk1 hS => ?_)
    rw [ht] at hB
    have hPd := ap_keep (a13 _ _ _ _ _ _ _ _ _ _ _ _ _ _ _ _ _ _ _ _).comm hPd hk1
    have hPo := ap_keep (a23 _ _ _ _ _ _ _ _ _ _ _ _ _ _).comm hPo hk1
    have hPg := ap_keep (a34 _ _ _ _ _ _ _ _ _ _ _ _ _ _) hPg hk1
    obtain ⟨hk5, hw⟩ := hw
    have e5 : u = k + 1 := hk5.trans hk9.symm
    subst e5
    have hPm : va_P E.1 vwCl (mC E mm (nI (k + 1)) dy rn cn tn NU WE AT zs BU AV LS LT) H1 := hB
    clear hDc hFc
    generalize H1 = H at hPd hPo hPm hPg hS ⊢
    refine lv_istore (lv' := [(7, .int r1442), (6, .int (nI (k + 1))), (0, .ref b), (1, .ref (ad 0)), (2, .ref (mm 0)), (3, .ref o0), (4, .ref d0), (5, .int (nI i))]) hx hb dL_law_1445 hl (by decide) rfl (fun ls hl => ?_)
    refine lv_aload_n hx hb dL_law_1447 rfl (lv_at hl 4 rfl) ?_
    have hPt : va_P E.1 vwCl [(mm 0, .inr (5, [.int (nI (k + 1)), .int (nI dy), .int (nI rn), .ref (mm 1), .ref (mm 2), .ref (mm 3), .ref (mm 4), .ref (mm 5), .int (nI cn), .ref (mm 6), .int (nI tn), .ref (mm 7), .ref (mm 8)]))] H := hPm.sub [0] rfl
    refine va_calli (va_runV (As := []) (rest := []) ⟨hx, hb, hml, hown, hts⟩ (kX5_thrown l E (mm 0) (mm 1) (mm 2) (mm 3) (mm 4) (mm 5) (mm 6) (mm 7) (mm 8) (nI (k + 1)) dy rn cn tn ) (cwV 0 hts gL_law_X5_thrown rfl rfl rfl (by decide +kernel) ⟨Nat.le_of_ble_eq_true rfl, Nat.le_of_ble_eq_true rfl⟩) ⟨fb_R, va_recv hE.1 hPm (ci := 5) (q0 := 0) rfl rfl, fun U hU hW => ⟨rfl, by rw [hU]; exact hPt, hE.warm hW⟩⟩ rfl rfl hl.1 rfl (lv_room (Nat.le_of_ble_eq_true rfl)) dL_law_1448 ⟨by show _ ≤ 601024; omega, by show _ ≤ 7293034; omega⟩) hS (fun q _ h => h.elim) (fun q h => h.elim) (fun r1448 u t H1 locs ht hvm hw hB hz1 hk1 hS => ?_)
    have hPd := hPd.ro hk1
    have hPo := hPo.ro hk1
    have hPm := hPm.ro hk1
    have hPg := hPg.ro hk1
    generalize H1 = H at hPd hPo hPm hPg hS ⊢
    subst hw
    refine lv_iload hx hb dL_law_1451 (lv_at hl 1 rfl) ?_
    refine mz_eqN hx hb (k + 1) (k + 1) (tgt := 1458) dL_law_1453 (by decide) (by omega) (by omega) (fun _ => ?_) (fun c9 => absurd rfl c9)
    refine lv_iload hx hb dL_law_1458 (lv_at hl 1 rfl) ?_
    refine mz_ifneN hx hb (k + 1) (tgt := 1475) dL_law_1460 (by decide) (by omega) (fun _ => ?_) (fun c9 => absurd c9 (by omega))
    refine lv_goto (tgt := 1642) hx hb dL_law_1475 (by decide) ?_
    refine W.widen (k := cl + 740) (n := sl + 3700) (by omega) (by omega) ?_
    exact K _ _ _ ⟨_, _, _, _, _, _, _, _, _, _, _, _, _, _, _, _, _, hR, hPd, hPo, hPm, hPg⟩ hS (lv_sub hl [2, 3, 4, 5, 6, 7] rfl)
