set_option maxHeartbeats 4000000 in
set_option maxRecDepth 100000 in
theorem arm_mainProblem {p : Program} {e : Env} {s : State} {m : MethodId} {below : List Frame} {meth : Method} {c : Code} (l : Launch) (hlt : l.stackTraces = false) {b L : Nat} {xs : Nat → Int32} (hL : L ≤ 3072) (C0 : lw_At p s m meth c b L xs) {E : ev_T} {ad mm : Nat → Nat} {o0 d0 : Nat} (hE : ev_U E s) (hU9 : ex_U (fun q : Nat => s.heap.size ≤ q) s s.heap) (hLD : LD E ad mm o0 d0 (fun q : Nat => s.heap.size ≤ q)) {i cl sl : Nat} (hi : i + 6 ≤ L) (hcl : cl + 740 ≤ 601024) (hsl : sl + 3700 ≤ 7293034)
    (K : ∀ (H : Heap) (locs : List Loc) (ls : Array Slot), LX E ad mm o0 d0 H → va_S (fun q : Nat => s.heap.size ≤ q) s.heap H locs → lv_has ls 9 [(0, .ref b), (1, .ref (ad 0)), (2, .ref (mm 0)), (3, .ref o0), (4, .ref d0), (5, .int (nI i))] → W p l e room_1 s m #[Value.ref b] below meth c H locs (cl + 740) (sl + 3700) (lw_Z below #[Value.ref b] s) (F0 m 1642 ls []))
    {H : Heap} {locs : List Loc} {ls : Array Slot} (hX0 : LX E ad mm o0 d0 H) (hS : va_S (fun q : Nat => s.heap.size ≤ q) s.heap H locs) (hl : lv_has ls 9 [(0, .ref b), (1, .ref (ad 0)), (2, .ref (mm 0)), (3, .ref o0), (4, .ref d0), (5, .int (nI i))]) : W p l e room_1 s m #[Value.ref b] below meth c H locs cl sl (lw_Z below #[Value.ref b] s) (F0 m 832 ls []) := by
  obtain ⟨hx, hb, hr, hml, hown, hts0, hX, hbl, hlocks, hgv⟩ := id C0
  have hts : ∀ w ∈ wsL_law, w.before #[Value.ref b] s = true := fun w h => hts0 w (wsL_law_in w h)
  have hown : s.vm.findClass RL = some m.cls := hown
  obtain ⟨S, zs, rn, dy, bn, cn, tn, th, NU, WE, AT, BU, AV, LS, LT, f0, g0, hR, hPd, hPo, hPm, hPg⟩ := hX0
  obtain ⟨d1, d2, d3, d4, a12, a13, a14, a23, a24, a34⟩ := hLD
  have hA : ∀ q : Nat, s.heap.size ≤ q → (fun q : Nat => s.heap.size ≤ q) q := fun _ h => h
  have hbA : ¬ (fun q : Nat => s.heap.size ≤ q) b := Nat.not_le.mpr hbl
  obtain ⟨h6, h60, h200, h20⟩ := hR.1
  have hz := hR.hz
  refine lv_aload_n hx hb dL_law_832 rfl (lv_at hl 1 rfl) ?_
  refine lv_aload_n hx hb dL_law_833 rfl (lv_at hl 0 rfl) ?_
  refine lv_iload hx hb dL_law_834 (lv_at hl 5 rfl) ?_
  refine lv_iconst (v := 1) hx hb dL_law_836 (by decide) ?_
  refine mz_addN hx hb i 1 dL_law_837 ?_
  refine la_sld hx hb hX hbl hbA hS (i + 1) (by omega) hL dL_law_838 ?_
  refine lv_aload_n hx hb dL_law_839 rfl (lv_at hl 3 rfl) ?_
  have hPw : va_P E.1 vwCl ((dC E ad S zs rn dy bn cn tn) ++ [oL E o0 f0]) H := hPd.app hPo
  have hDw : va_D (fun q : Nat => s.heap.size ≤ q) ((dC E ad S zs rn dy bn cn tn) ++ [oL E o0 f0]) := (d1 _ _ _ _ _ _ _).app (d2 _) (a12 _ _ _ _ _ _ _ _)
  have hFc := fr_free hDw hS hA
  refine va_calli (vx_runSW (As := [.ref (ad 0), .int (xs (i + 1)), .ref o0]) (rest := []) ⟨hx, hb, hml, hown, hts⟩ (kL_mainProblem l hlt E ad S zs rn dy bn cn tn (xs (i + 1)) o0 f0 H.size (by first | omega | assumption | exact h60 | exact h6 | exact h20 | exact h200) (by first | omega | assumption | exact h60 | exact h6 | exact h20 | exact h200)) (vx_cwSW 3 hts gL_law_L_mainProblem rfl rfl rfl (by decide +kernel) ⟨Nat.le_of_ble_eq_true rfl, Nat.le_of_ble_eq_true rfl⟩) ⟨fb_Y, fun U hU hW => ⟨rfl, by rw [hU], by rw [hU]; exact hPw, hDw.weaken (fun _ _ _ _ => trivial), hE.warm hW, hU9.to hS hFc hU hW⟩⟩ rfl rfl hl.1 rfl (lv_room (Nat.le_of_ble_eq_true rfl)) dL_law_840 ⟨by show _ ≤ 601024; omega, by show _ ≤ 7293034; omega⟩) hS (fun q _ h => hFc q h) hFc (fun r9 k t H1 locs ht hvm hw hB hz1 hk1 hS => ?_)
  obtain ⟨hr9, hk9⟩ := hw
  subst hr9
  rw [ht] at hB
  have hPm := ap_keep (ap.both (a13 _ _ _ _ _ _ _ _ _ _ _ _ _ _ _ _ _ _ _ _) (a23 _ _ _ _ _ _ _ _ _ _ _ _ _ _)) hPm hk1
  have hPg := ap_keep (ap.both (a14 _ _ _ _ _ _ _ _) (a24 _ _)) hPg hk1
  have hle9 := tReg_le (xs (i + 1)) rn
  rcases Nat.eq_zero_or_pos k with hk0 | hk0
  · subst hk0
    have hB : va_P E.1 vwCl ((dC E ad S zs rn dy bn cn tn) ++ [oL E o0 (vp_updL f0 0 (Int32.toInt64 ((fpA (S (3 + 2 * (Int32.toNatClampNeg (xs (i + 1))))) (crA (S (3 + 2 * (Int32.toNatClampNeg (xs (i + 1))))) (levA (S (3 + 2 * (Int32.toNatClampNeg (xs (i + 1)))))) 12) 4).1)))]) H1 := hB
    have hPd := fr_l hB
    have hPo := fr_r hB
    clear hPw hDw hFc
    generalize H1 = H at hPd hPo hPm hPg hS ⊢
    refine lv_istore (lv' := [(6, .int 0), (0, .ref b), (1, .ref (ad 0)), (2, .ref (mm 0)), (3, .ref o0), (4, .ref d0), (5, .int (nI i))]) hx hb dL_law_843 hl (by decide) rfl (fun ls hl => ?_)
    refine lv_aload_n hx hb dL_law_845 rfl (lv_at hl 3 rfl) ?_
    refine lv_aload_n hx hb dL_law_846 rfl (lv_at hl 1 rfl) ?_
    refine lv_iload hx hb dL_law_847 (lv_at hl 6 rfl) ?_
    refine lv_iconst (v := 1) hx hb dL_law_849 (by decide) ?_
    refine mz_addN hx hb i 1 dL_law_850 ?_
    refine la_sld hx hb hX hbl hbA hS (i + 1) (by omega) hL dL_law_851 ?_
    have hDc : va_D (fun q : Nat => s.heap.size ≤ q) (mC E mm th dy rn cn tn NU WE AT zs BU AV LS LT) := d3 _ _ _ _ _ _ _ _ _ _ _ _ _
    have hFc := fr_free hDc hS hA
    refine va_calli (va_runV (As := [.int (xs (i + 1))]) (rest := []) ⟨hx, hb, hml, hown, hts⟩ (kX5_mainProblem l E (mm 0) (mm 1) (mm 2) (mm 3) (mm 4) (mm 5) (mm 6) (mm 7) (mm 8) th dy rn cn tn NU WE AT zs BU AV LS LT (xs (i + 1)) H.size (by first | omega | assumption | exact hz) (by first | omega | assumption | exact hz)) (cwV 1 hts gL_law_X5_mainProblem rfl rfl rfl (by decide +kernel) ⟨Nat.le_of_ble_eq_true rfl, Nat.le_of_ble_eq_true rfl⟩) ⟨fb_W, va_recv hE.1 hPm (ci := 5) (q0 := 0) rfl rfl, fun U hU hW => ⟨rfl, by rw [hU], by rw [hU]; exact hPm, hDc.weaken (fun _ _ _ _ => trivial), hE.warm hW⟩⟩ rfl rfl hl.1 rfl (lv_room (Nat.le_of_ble_eq_true rfl)) dL_law_852 ⟨by show _ ≤ 601024; omega, by show _ ≤ 7293034; omega⟩) hS (fun q _ h => hFc q h) hFc (fun r852 u t H1 locs ht hvm hw hB hz1 hk1 hS => ?_)
    rw [ht] at hB
    have hPd := ap_keep (a13 _ _ _ _ _ _ _ _ _ _ _ _ _ _ _ _ _ _ _ _).comm hPd hk1
    have hPo := ap_keep (a23 _ _ _ _ _ _ _ _ _ _ _ _ _ _).comm hPo hk1
    have hPg := ap_keep (a34 _ _ _ _ _ _ _ _ _ _ _ _ _ _) hPg hk1
    obtain ⟨hk5, hw⟩ := hw
    have e5 : u = 0 := hk5.trans hk9.symm
    subst e5
    have hw := hw rfl
    have hPm : va_P E.1 vwCl (mC E mm 0 dy rn cn tn NU WE AT zs BU AV LS LT) H1 := hB
    clear hDc hFc
    generalize H1 = H at hPd hPo hPm hPg hS ⊢
    subst hw
    have heq := op_mainProblem hR (xs (i + 1)) hk9
    refine lv_istore (lv' := [(7, .int (manM NU (Int32.toNatClampNeg (xs (i + 1))))), (6, .int 0), (0, .ref b), (1, .ref (ad 0)), (2, .ref (mm 0)), (3, .ref o0), (4, .ref d0), (5, .int (nI i))]) hx hb dL_law_855 hl (by decide) rfl (fun ls hl => ?_)
    refine lv_aload_n hx hb dL_law_857 rfl (lv_at hl 4 rfl) ?_
    have hPt : va_P E.1 vwCl [(mm 0, .inr (5, [.int 0, .int (nI dy), .int (nI rn), .ref (mm 1), .ref (mm 2), .ref (mm 3), .ref (mm 4), .ref (mm 5), .int (nI cn), .ref (mm 6), .int (nI tn), .ref (mm 7), .ref (mm 8)]))] H := hPm.sub [0] rfl
    refine va_calli (va_runV (As := []) (rest := []) ⟨hx, hb, hml, hown, hts⟩ (kX5_thrown l E (mm 0) (mm 1) (mm 2) (mm 3) (mm 4) (mm 5) (mm 6) (mm 7) (mm 8) 0 dy rn cn tn ) (cwV 0 hts gL_law_X5_thrown rfl rfl rfl (by decide +kernel) ⟨Nat.le_of_ble_eq_true rfl, Nat.le_of_ble_eq_true rfl⟩) ⟨fb_R, va_recv hE.1 hPm (ci := 5) (q0 := 0) rfl rfl, fun U hU hW => ⟨rfl, by rw [hU]; exact hPt, hE.warm hW⟩⟩ rfl rfl hl.1 rfl (lv_room (Nat.le_of_ble_eq_true rfl)) dL_law_858 ⟨by show _ ≤ 601024; omega, by show _ ≤ 7293034; omega⟩) hS (fun q _ h => h.elim) (fun q h => h.elim) (fun r858 u t H1 locs ht hvm hw hB hz1 hk1 hS => ?_)
    have hPd := hPd.ro hk1
    have hPo := hPo.ro hk1
    have hPm := hPm.ro hk1
    have hPg := hPg.ro hk1
    generalize H1 = H at hPd hPo hPm hPg hS ⊢
    subst hw
    refine lv_iload hx hb dL_law_861 (lv_at hl 1 rfl) ?_
    refine mz_eqN hx hb 0 0 (tgt := 868) dL_law_863 (by decide) (by omega) (by omega) (fun _ => ?_) (fun c9 => absurd rfl c9)
    refine lv_iload hx hb dL_law_868 (lv_at hl 1 rfl) ?_
    refine lv_if_ne (tgt := 885) hx hb dL_law_870 (by decide) (fun c9 => absurd rfl c9) (fun _ => ?_)
    refine lv_aload_n hx hb dL_law_873 rfl (lv_at hl 5 rfl) ?_
    refine lv_iconst (v := 0) hx hb dL_law_874 (by decide) ?_
    refine la_lld hx hb hE hPo dL_law_875 ?_
    refine lv_iload hx hb dL_law_876 (lv_at hl 0 rfl) ?_
    refine lv_i2l hx hb dL_law_878 rfl ?_
    refine la_eqL hx hb (congrArg Int32.toInt64 heq) (tgt := 885) dL_law_879 dL_law_880 (by decide) ?_
    refine lv_goto (tgt := 1642) hx hb dL_law_885 (by decide) ?_
    refine W.widen (k := cl + 740) (n := sl + 3700) (by omega) (by omega) ?_
    exact K _ _ _ ⟨_, _, _, _, _, _, _, _, _, _, _, _, _, _, _, _, _, hR, hPd, hPo, hPm, hPg⟩ hS (lv_sub hl [2, 3, 4, 5, 6, 7] rfl)
  · obtain ⟨k, rfl⟩ : ∃ k9, k = k9 + 1 := ⟨k - 1, by omega⟩
    have hB : va_P E.1 vwCl ((dC E ad S zs rn dy bn cn tn) ++ [oL E o0 f0]) H1 := hB
    have hPd := fr_l hB
    have hPo := fr_r hB
    clear hPw hDw hFc
    generalize H1 = H at hPd hPo hPm hPg hS ⊢
    refine lv_istore (lv' := [(6, .int (nI (k + 1))), (0, .ref b), (1, .ref (ad 0)), (2, .ref (mm 0)), (3, .ref o0), (4, .ref d0), (5, .int (nI i))]) hx hb dL_law_843 hl (by decide) rfl (fun ls hl => ?_)
    refine lv_aload_n hx hb dL_law_845 rfl (lv_at hl 3 rfl) ?_
    refine lv_aload_n hx hb dL_law_846 rfl (lv_at hl 1 rfl) ?_
    refine lv_iload hx hb dL_law_847 (lv_at hl 6 rfl) ?_
    refine lv_iconst (v := 1) hx hb dL_law_849 (by decide) ?_
    refine mz_addN hx hb i 1 dL_law_850 ?_
    refine la_sld hx hb hX hbl hbA hS (i + 1) (by omega) hL dL_law_851 ?_
    have hDc : va_D (fun q : Nat => s.heap.size ≤ q) (mC E mm th dy rn cn tn NU WE AT zs BU AV LS LT) := d3 _ _ _ _ _ _ _ _ _ _ _ _ _
    have hFc := fr_free hDc hS hA
    refine va_calli (va_runV (As := [.int (xs (i + 1))]) (rest := []) ⟨hx, hb, hml, hown, hts⟩ (kX5_mainProblem l E (mm 0) (mm 1) (mm 2) (mm 3) (mm 4) (mm 5) (mm 6) (mm 7) (mm 8) th dy rn cn tn NU WE AT zs BU AV LS LT (xs (i + 1)) H.size (by first | omega | assumption | exact hz) (by first | omega | assumption | exact hz)) (cwV 1 hts gL_law_X5_mainProblem rfl rfl rfl (by decide +kernel) ⟨Nat.le_of_ble_eq_true rfl, Nat.le_of_ble_eq_true rfl⟩) ⟨fb_W, va_recv hE.1 hPm (ci := 5) (q0 := 0) rfl rfl, fun U hU hW => ⟨rfl, by rw [hU], by rw [hU]; exact hPm, hDc.weaken (fun _ _ _ _ => trivial), hE.warm hW⟩⟩ rfl rfl hl.1 rfl (lv_room (Nat.le_of_ble_eq_true rfl)) dL_law_852 ⟨by show _ ≤ 601024; omega, by show _ ≤ 7293034; omega⟩) hS (fun q _ h => hFc q h) hFc (fun r852 u t H1 locs ht hvm hw hB hz1 hk1 hS => ?_)
    rw [ht] at hB
    have hPd := ap_keep (a13 _ _ _ _ _ _ _ _ _ _ _ _ _ _ _ _ _ _ _ _).comm hPd hk1
    have hPo := ap_keep (a23 _ _ _ _ _ _ _ _ _ _ _ _ _ _).comm hPo hk1
    have hPg := ap_keep (a34 _ _ _ _ _ _ _ _ _ _ _ _ _ _) hPg hk1
    obtain ⟨hk5, hw⟩ := hw
    have e5 : u = k + 1 := hk5.trans hk9.symm
    subst e5
    have hPm : va_P E.1 vwCl (mC E mm (nI (k + 1)) dy rn cn tn NU WE AT zs BU AV LS LT) H1 := hB
    clear hDc hFc
    generalize H1 = H at hPd hPo hPm hPg hS ⊢
    refine lv_istore (lv' := [(7, .int r852), (6, .int (nI (k + 1))), (0, .ref b), (1, .ref (ad 0)), (2, .ref (mm 0)), (3, .ref o0), (4, .ref d0), (5, .int (nI i))]) hx hb dL_law_855 hl (by decide) rfl (fun ls hl => ?_)
    refine lv_aload_n hx hb dL_law_857 rfl (lv_at hl 4 rfl) ?_
    have hPt : va_P E.1 vwCl [(mm 0, .inr (5, [.int (nI (k + 1)), .int (nI dy), .int (nI rn), .ref (mm 1), .ref (mm 2), .ref (mm 3), .ref (mm 4), .ref (mm 5), .int (nI cn), .ref (mm 6), .int (nI tn), .ref (mm 7), .ref (mm 8)]))] H := hPm.sub [0] rfl
    refine va_calli (va_runV (As := []) (rest := []) ⟨hx, hb, hml, hown, hts⟩ (kX5_thrown l E (mm 0) (mm 1) (mm 2) (mm 3) (mm 4) (mm 5) (mm 6) (mm 7) (mm 8) (nI (k + 1)) dy rn cn tn ) (cwV 0 hts gL_law_X5_thrown rfl rfl rfl (by decide +kernel) ⟨Nat.le_of_ble_eq_true rfl, Nat.le_of_ble_eq_true rfl⟩) ⟨fb_R, va_recv hE.1 hPm (ci := 5) (q0 := 0) rfl rfl, fun U hU hW => ⟨rfl, by rw [hU]; exact hPt, hE.warm hW⟩⟩ rfl rfl hl.1 rfl (lv_room (Nat.le_of_ble_eq_true rfl)) dL_law_858 ⟨by show _ ≤ 601024; omega, by show _ ≤ 7293034; omega⟩) hS (fun q _ h => h.elim) (fun q h => h.elim) (fun r858 u t H1 locs ht hvm hw hB hz1 hk1 hS => ?_)
    have hPd := hPd.ro hk1
    have hPo := hPo.ro hk1
    have hPm := hPm.ro hk1
    have hPg := hPg.ro hk1
    generalize H1 = H at hPd hPo hPm hPg hS ⊢
    subst hw
    refine lv_iload hx hb dL_law_861 (lv_at hl 1 rfl) ?_
    refine mz_eqN hx hb (k + 1) (k + 1) (tgt := 868) dL_law_863 (by decide) (by omega) (by omega) (fun _ => ?_) (fun c9 => absurd rfl c9)
    refine lv_iload hx hb dL_law_868 (lv_at hl 1 rfl) ?_
    refine mz_ifneN hx hb (k + 1) (tgt := 885) dL_law_870 (by decide) (by omega) (fun _ => ?_) (fun c9 => absurd c9 (by omega))
    refine lv_goto (tgt := 1642) hx hb dL_law_885 (by decide) ?_
    refine W.widen (k := cl + 740) (n := sl + 3700) (by omega) (by omega) ?_
    exact K _ _ _ ⟨_, _, _, _, _, _, _, _, _, _, _, _, _, _, _, _, _, hR, hPd, hPo, hPm, hPg⟩ hS (lv_sub hl [2, 3, 4, 5, 6, 7] rfl)
set_option maxHeartbeats 4000000 in
set_option maxRecDepth 100000 in
theorem arm_outlook {p : Program} {e : Env} {s : State} {m : MethodId} {below : List Frame} {meth : Method} {c : Code} (l : Launch) (hlt : l.stackTraces = false) {b L : Nat} {xs : Nat → Int32} (hL : L ≤ 3072) (C0 : lw_At p s m meth c b L xs) {E : ev_T} {ad mm : Nat → Nat} {o0 d0 : Nat} (hE : ev_U E s) (hU9 : ex_U (fun q : Nat => s.heap.size ≤ q) s s.heap) (hLD : LD E ad mm o0 d0 (fun q : Nat => s.heap.size ≤ q)) {i cl sl : Nat} (hi : i + 6 ≤ L) (hcl : cl + 740 ≤ 601024) (hsl : sl + 3700 ≤ 7293034)
    (K : ∀ (H : Heap) (locs : List Loc) (ls : Array Slot), LX E ad mm o0 d0 H → va_S (fun q : Nat => s.heap.size ≤ q) s.heap H locs → lv_has ls 9 [(0, .ref b), (1, .ref (ad 0)), (2, .ref (mm 0)), (3, .ref o0), (4, .ref d0), (5, .int (nI i))] → W p l e room_1 s m #[Value.ref b] below meth c H locs (cl + 740) (sl + 3700) (lw_Z below #[Value.ref b] s) (F0 m 1642 ls []))
    {H : Heap} {locs : List Loc} {ls : Array Slot} (hX0 : LX E ad mm o0 d0 H) (hS : va_S (fun q : Nat => s.heap.size ≤ q) s.heap H locs) (hl : lv_has ls 9 [(0, .ref b), (1, .ref (ad 0)), (2, .ref (mm 0)), (3, .ref o0), (4, .ref d0), (5, .int (nI i))]) : W p l e room_1 s m #[Value.ref b] below meth c H locs cl sl (lw_Z below #[Value.ref b] s) (F0 m 888 ls []) := by
  obtain ⟨hx, hb, hr, hml, hown, hts0, hX, hbl, hlocks, hgv⟩ := id C0
  have hts : ∀ w ∈ wsL_law, w.before #[Value.ref b] s = true := fun w h => hts0 w (wsL_law_in w h)
  have hown : s.vm.findClass RL = some m.cls := hown
  obtain ⟨S, zs, rn, dy, bn, cn, tn, th, NU, WE, AT, BU, AV, LS, LT, f0, g0, hR, hPd, hPo, hPm, hPg⟩ := hX0
  obtain ⟨d1, d2, d3, d4, a12, a13, a14, a23, a24, a34⟩ := hLD
  have hA : ∀ q : Nat, s.heap.size ≤ q → (fun q : Nat => s.heap.size ≤ q) q := fun _ h => h
  have hbA : ¬ (fun q : Nat => s.heap.size ≤ q) b := Nat.not_le.mpr hbl
  obtain ⟨h6, h60, h200, h20⟩ := hR.1
  have hz := hR.hz
  refine lv_aload_n hx hb dL_law_888 rfl (lv_at hl 1 rfl) ?_
  refine lv_aload_n hx hb dL_law_889 rfl (lv_at hl 0 rfl) ?_
  refine lv_iload hx hb dL_law_890 (lv_at hl 5 rfl) ?_
  refine lv_iconst (v := 1) hx hb dL_law_892 (by decide) ?_
  refine mz_addN hx hb i 1 dL_law_893 ?_
  refine la_sld hx hb hX hbl hbA hS (i + 1) (by omega) hL dL_law_894 ?_
  refine lv_aload_n hx hb dL_law_895 rfl (lv_at hl 0 rfl) ?_
  refine lv_iload hx hb dL_law_896 (lv_at hl 5 rfl) ?_
  refine lv_iconst (v := 2) hx hb dL_law_898 (by decide) ?_
  refine mz_addN hx hb i 2 dL_law_899 ?_
  refine la_sld hx hb hX hbl hbA hS (i + 2) (by omega) hL dL_law_900 ?_
  refine lv_aload_n hx hb dL_law_901 rfl (lv_at hl 0 rfl) ?_
  refine lv_iload hx hb dL_law_902 (lv_at hl 5 rfl) ?_
  refine lv_iconst (v := 3) hx hb dL_law_904 (by decide) ?_
  refine mz_addN hx hb i 3 dL_law_905 ?_
  refine la_sld hx hb hX hbl hbA hS (i + 3) (by omega) hL dL_law_906 ?_
  refine lv_aload_n hx hb dL_law_907 rfl (lv_at hl 0 rfl) ?_
  refine lv_iload hx hb dL_law_908 (lv_at hl 5 rfl) ?_
  refine lv_iconst (v := 4) hx hb dL_law_910 (by decide) ?_
  refine mz_addN hx hb i 4 dL_law_911 ?_
  refine la_sld hx hb hX hbl hbA hS (i + 4) (by omega) hL dL_law_912 ?_
  refine lv_aload_n hx hb dL_law_913 rfl (lv_at hl 0 rfl) ?_
  refine lv_iload hx hb dL_law_914 (lv_at hl 5 rfl) ?_
  refine lv_iconst (v := 5) hx hb dL_law_916 (by decide) ?_
  refine mz_addN hx hb i 5 dL_law_917 ?_
  refine la_sld hx hb hX hbl hbA hS (i + 5) (by omega) hL dL_law_918 ?_
  refine lv_aload_n hx hb dL_law_919 rfl (lv_at hl 3 rfl) ?_
  have hPw : va_P E.1 vwCl ((dC E ad S zs rn dy bn cn tn) ++ [oL E o0 f0]) H := hPd.app hPo
  have hDw : va_D (fun q : Nat => s.heap.size ≤ q) ((dC E ad S zs rn dy bn cn tn) ++ [oL E o0 f0]) := (d1 _ _ _ _ _ _ _).app (d2 _) (a12 _ _ _ _ _ _ _ _)
  have hFc := fr_free hDw hS hA
  refine va_calli (vx_runSW (As := [.ref (ad 0), .int (xs (i + 1)), .int (xs (i + 2)), .int (xs (i + 3)), .int (xs (i + 4)), .int (xs (i + 5)), .ref o0]) (rest := []) ⟨hx, hb, hml, hown, hts⟩ (kL_outlook l hlt E ad S zs rn dy bn cn tn (xs (i + 1)) (xs (i + 2)) (xs (i + 3)) (xs (i + 4)) (xs (i + 5)) o0 f0 H.size (by first | omega | assumption | exact h60 | exact h6 | exact h20 | exact h200) (by first | omega | assumption | exact h60 | exact h6 | exact h20 | exact h200)) (vx_cwSW 7 hts gL_law_L_outlook rfl rfl rfl (by decide +kernel) ⟨Nat.le_of_ble_eq_true rfl, Nat.le_of_ble_eq_true rfl⟩) ⟨fb_Y, fun U hU hW => ⟨rfl, by rw [hU], by rw [hU]; exact hPw, hDw.weaken (fun _ _ _ _ => trivial), hE.warm hW, hU9.to hS hFc hU hW⟩⟩ rfl rfl hl.1 rfl (lv_room (Nat.le_of_ble_eq_true rfl)) dL_law_920 ⟨by show _ ≤ 601024; omega, by show _ ≤ 7293034; omega⟩) hS (fun q _ h => hFc q h) hFc (fun r9 k t H1 locs ht hvm hw hB hz1 hk1 hS => ?_)
  obtain ⟨hr9, hk9⟩ := hw
  subst hr9
  rw [ht] at hB
  have hPm := ap_keep (ap.both (a13 _ _ _ _ _ _ _ _ _ _ _ _ _ _ _ _ _ _ _ _) (a23 _ _ _ _ _ _ _ _ _ _ _ _ _ _)) hPm hk1
  have hPg := ap_keep (ap.both (a14 _ _ _ _ _ _ _ _) (a24 _ _)) hPg hk1
  have hle9 := tWea_le (xs (i + 1)) (xs (i + 2)) (xs (i + 3)) (xs (i + 4)) (xs (i + 5)) rn
  rcases Nat.eq_zero_or_pos k with hk0 | hk0
  · subst hk0
    have hB : va_P E.1 vwCl ((dC E ad (va_up (va_up (va_up S 15 (va_cpy (S (3 + 2 * (Int32.toNatClampNeg (xs (i + 1))))) (S 15) 0 0 60)) 14 (fF 1 (xs (i + 2)) (xs (i + 3)) (xs (i + 4)) (xs (i + 5)))) 15 (PO (va_cpy (S (3 + 2 * (Int32.toNatClampNeg (xs (i + 1))))) (S 15) 0 0 60) ((fF 1 (xs (i + 2)) (xs (i + 3)) (xs (i + 4)) (xs (i + 5))) 2) ((fF 1 (xs (i + 2)) (xs (i + 3)) (xs (i + 4)) (xs (i + 5))) 3) ((fF 1 (xs (i + 2)) (xs (i + 3)) (xs (i + 4)) (xs (i + 5))) 4) ((fF 1 (xs (i + 2)) (xs (i + 3)) (xs (i + 4)) (xs (i + 5))) 5))) zs rn dy bn cn tn) ++ [oL E o0 (vp_updL f0 0 (Int32.toInt64 (levA (PO (va_cpy (S (3 + 2 * (Int32.toNatClampNeg (xs (i + 1))))) (S 15) 0 0 60) ((fF 1 (xs (i + 2)) (xs (i + 3)) (xs (i + 4)) (xs (i + 5))) 2) ((fF 1 (xs (i + 2)) (xs (i + 3)) (xs (i + 4)) (xs (i + 5))) 3) ((fF 1 (xs (i + 2)) (xs (i + 3)) (xs (i + 4)) (xs (i + 5))) 4) ((fF 1 (xs (i + 2)) (xs (i + 3)) (xs (i + 4)) (xs (i + 5))) 5)))))]) H1 := hB
    have hPd := fr_l hB
    have hPo := fr_r hB
    clear hPw hDw hFc
    generalize H1 = H at hPd hPo hPm hPg hS ⊢
    refine lv_istore (lv' := [(6, .int 0), (0, .ref b), (1, .ref (ad 0)), (2, .ref (mm 0)), (3, .ref o0), (4, .ref d0), (5, .int (nI i))]) hx hb dL_law_923 hl (by decide) rfl (fun ls hl => ?_)
    refine lv_aload_n hx hb dL_law_925 rfl (lv_at hl 3 rfl) ?_
    refine lv_aload_n hx hb dL_law_926 rfl (lv_at hl 1 rfl) ?_
    refine lv_iload hx hb dL_law_927 (lv_at hl 6 rfl) ?_
    refine lv_iconst (v := 1) hx hb dL_law_929 (by decide) ?_
    refine mz_addN hx hb i 1 dL_law_930 ?_
    refine la_sld hx hb hX hbl hbA hS (i + 1) (by omega) hL dL_law_931 ?_
    refine lv_aload_n hx hb dL_law_932 rfl (lv_at hl 1 rfl) ?_
    refine lv_iload hx hb dL_law_933 (lv_at hl 6 rfl) ?_
    refine lv_iconst (v := 2) hx hb dL_law_935 (by decide) ?_
    refine mz_addN hx hb i 2 dL_law_936 ?_
    refine la_sld hx hb hX hbl hbA hS (i + 2) (by omega) hL dL_law_937 ?_
    refine lv_aload_n hx hb dL_law_938 rfl (lv_at hl 1 rfl) ?_
    refine lv_iload hx hb dL_law_939 (lv_at hl 6 rfl) ?_
    refine lv_iconst (v := 3) hx hb dL_law_941 (by decide) ?_
    refine mz_addN hx hb i 3 dL_law_942 ?_
    refine la_sld hx hb hX hbl hbA hS (i + 3) (by omega) hL dL_law_943 ?_
    refine lv_aload_n hx hb dL_law_944 rfl (lv_at hl 1 rfl) ?_
    refine lv_iload hx hb dL_law_945 (lv_at hl 6 rfl) ?_
    refine lv_iconst (v := 4) hx hb dL_law_947 (by decide) ?_
    refine mz_addN hx hb i 4 dL_law_948 ?_
    refine la_sld hx hb hX hbl hbA hS (i + 4) (by omega) hL dL_law_949 ?_
    refine lv_aload_n hx hb dL_law_950 rfl (lv_at hl 1 rfl) ?_
    refine lv_iload hx hb dL_law_951 (lv_at hl 6 rfl) ?_
    refine lv_iconst (v := 5) hx hb dL_law_953 (by decide) ?_
    refine mz_addN hx hb i 5 dL_law_954 ?_
    refine la_sld hx hb hX hbl hbA hS (i + 5) (by omega) hL dL_law_955 ?_
    have hDc : va_D (fun q : Nat => s.heap.size ≤ q) (mC E mm th dy rn cn tn NU WE AT zs BU AV LS LT) := d3 _ _ _ _ _ _ _ _ _ _ _ _ _
    have hFc := fr_free hDc hS hA
    refine va_calli (va_runV (As := [.int (xs (i + 1)), .int (xs (i + 2)), .int (xs (i + 3)), .int (xs (i + 4)), .int (xs (i + 5))]) (rest := []) ⟨hx, hb, hml, hown, hts⟩ (kX5_outlook l E (mm 0) (mm 1) (mm 2) (mm 3) (mm 4) (mm 5) (mm 6) (mm 7) (mm 8) th dy rn cn tn NU WE AT zs BU AV LS LT (xs (i + 1)) (xs (i + 2)) (xs (i + 3)) (xs (i + 4)) (xs (i + 5)) H.size (by first | omega | assumption | exact hz) (by first | omega | assumption | exact hz)) (cwV 5 hts gL_law_X5_outlook rfl rfl rfl (by decide +kernel) ⟨Nat.le_of_ble_eq_true rfl, Nat.le_of_ble_eq_true rfl⟩) ⟨fb_W, va_recv hE.1 hPm (ci := 5) (q0 := 0) rfl rfl, fun U hU hW => ⟨rfl, by rw [hU], by rw [hU]; exact hPm, hDc.weaken (fun _ _ _ _ => trivial), hE.warm hW⟩⟩ rfl rfl hl.1 rfl (lv_room (Nat.le_of_ble_eq_true rfl)) dL_law_956 ⟨by show _ ≤ 601024; omega, by show _ ≤ 7293034; omega⟩) hS (fun q _ h => hFc q h) hFc (fun r956 u t H1 locs ht hvm hw hB hz1 hk1 hS => ?_)
    rw [ht] at hB
    have hPd := ap_keep (a13 _ _ _ _ _ _ _ _ _ _ _ _ _ _ _ _ _ _ _ _).comm hPd hk1
    have hPo := ap_keep (a23 _ _ _ _ _ _ _ _ _ _ _ _ _ _).comm hPo hk1
    have hPg := ap_keep (a34 _ _ _ _ _ _ _ _ _ _ _ _ _ _) hPg hk1
    obtain ⟨hk5, hw⟩ := hw
    have e5 : u = 0 := hk5.trans hk9.symm
    subst e5
    have hw := hw rfl
    have hPm : va_P E.1 vwCl (mC E mm 0 dy rn cn tn NU WE AT zs BU AV LS LT) H1 := hB
    clear hDc hFc
    generalize H1 = H at hPd hPo hPm hPg hS ⊢
    subst hw
    have heq := op_outlook hR (xs (i + 1)) (xs (i + 2)) (xs (i + 3)) (xs (i + 4)) (xs (i + 5)) hk9
    have hR := op_free hR ((va_cpy (S (3 + 2 * (Int32.toNatClampNeg (xs (i + 1))))) (S 15) 0 0 60)) ((fF 1 (xs (i + 2)) (xs (i + 3)) (xs (i + 4)) (xs (i + 5)))) ((PO (va_cpy (S (3 + 2 * (Int32.toNatClampNeg (xs (i + 1))))) (S 15) 0 0 60) ((fF 1 (xs (i + 2)) (xs (i + 3)) (xs (i + 4)) (xs (i + 5))) 2) ((fF 1 (xs (i + 2)) (xs (i + 3)) (xs (i + 4)) (xs (i + 5))) 3) ((fF 1 (xs (i + 2)) (xs (i + 3)) (xs (i + 4)) (xs (i + 5))) 4) ((fF 1 (xs (i + 2)) (xs (i + 3)) (xs (i + 4)) (xs (i + 5))) 5)))
    refine lv_istore (lv' := [(7, .int (lvM (tnM NU (Int32.toNatClampNeg (xs (i + 1))) (xs (i + 2)) (xs (i + 3)) (xs (i + 4)) (xs (i + 5))) 0)), (6, .int 0), (0, .ref b), (1, .ref (ad 0)), (2, .ref (mm 0)), (3, .ref o0), (4, .ref d0), (5, .int (nI i))]) hx hb dL_law_959 hl (by decide) rfl (fun ls hl => ?_)
    refine lv_aload_n hx hb dL_law_961 rfl (lv_at hl 4 rfl) ?_
    have hPt : va_P E.1 vwCl [(mm 0, .inr (5, [.int 0, .int (nI dy), .int (nI rn), .ref (mm 1), .ref (mm 2), .ref (mm 3), .ref (mm 4), .ref (mm 5), .int (nI cn), .ref (mm 6), .int (nI tn), .ref (mm 7), .ref (mm 8)]))] H := hPm.sub [0] rfl
    refine va_calli (va_runV (As := []) (rest := []) ⟨hx, hb, hml, hown, hts⟩ (kX5_thrown l E (mm 0) (mm 1) (mm 2) (mm 3) (mm 4) (mm 5) (mm 6) (mm 7) (mm 8) 0 dy rn cn tn ) (cwV 0 hts gL_law_X5_thrown rfl rfl rfl (by decide +kernel) ⟨Nat.le_of_ble_eq_true rfl, Nat.le_of_ble_eq_true rfl⟩) ⟨fb_R, va_recv hE.1 hPm (ci := 5) (q0 := 0) rfl rfl, fun U hU hW => ⟨rfl, by rw [hU]; exact hPt, hE.warm hW⟩⟩ rfl rfl hl.1 rfl (lv_room (Nat.le_of_ble_eq_true rfl)) dL_law_962 ⟨by show _ ≤ 601024; omega, by show _ ≤ 7293034; omega⟩) hS (fun q _ h => h.elim) (fun q h => h.elim) (fun r962 u t H1 locs ht hvm hw hB hz1 hk1 hS => ?_)
    have hPd := hPd.ro hk1
    have hPo := hPo.ro hk1
    have hPm := hPm.ro hk1
    have hPg := hPg.ro hk1
    generalize H1 = H at hPd hPo hPm hPg hS ⊢
    subst hw
    refine lv_iload hx hb dL_law_965 (lv_at hl 1 rfl) ?_
    refine mz_eqN hx hb 0 0 (tgt := 972) dL_law_967 (by decide) (by omega) (by omega) (fun _ => ?_) (fun c9 => absurd rfl c9)
    refine lv_iload hx hb dL_law_972 (lv_at hl 1 rfl) ?_
    refine lv_if_ne (tgt := 989) hx hb dL_law_974 (by decide) (fun c9 => absurd rfl c9) (fun _ => ?_)
    refine lv_aload_n hx hb dL_law_977 rfl (lv_at hl 5 rfl) ?_
    refine lv_iconst (v := 0) hx hb dL_law_978 (by decide) ?_
    refine la_lld hx hb hE hPo dL_law_979 ?_
    refine lv_iload hx hb dL_law_980 (lv_at hl 0 rfl) ?_
    refine lv_i2l hx hb dL_law_982 rfl ?_
    refine la_eqL hx hb (congrArg Int32.toInt64 heq) (tgt := 989) dL_law_983 dL_law_984 (by decide) ?_
    refine lv_goto (tgt := 1642) hx hb dL_law_989 (by decide) ?_
    refine W.widen (k := cl + 740) (n := sl + 3700) (by omega) (by omega) ?_
    exact K _ _ _ ⟨_, _, _, _, _, _, _, _, _, _, _, _, _, _, _, _, _, hR, hPd, hPo, hPm, hPg⟩ hS (lv_sub hl [2, 3, 4, 5, 6, 7] rfl)
  · obtain ⟨k, rfl⟩ : ∃ k9, k = k9 + 1 := ⟨k - 1, by omega⟩
    have hB : va_P E.1 vwCl ((dC E ad S zs rn dy bn cn tn) ++ [oL E o0 f0]) H1 := hB
    have hPd := fr_l hB
    have hPo := fr_r hB
    clear hPw hDw hFc
    generalize H1 = H at hPd hPo hPm hPg hS ⊢
    refine lv_istore (lv' := [(6, .int (nI (k + 1))), (0, .ref b), (1, .ref (ad 0)), (2, .ref (mm 0)), (3, .ref o0), (4, .ref d0), (5, .int (nI i))]) hx hb dL_law_923 hl (by decide) rfl (fun ls hl => ?_)
    refine lv_aload_n hx hb dL_law_925 rfl (lv_at hl 3 rfl) ?_
    refine lv_aload_n hx hb dL_law_926 rfl (lv_at hl 1 rfl) ?_
    refine lv_iload hx hb dL_law_927 (lv_at hl 6 rfl) ?_
    refine lv_iconst (v := 1) hx hb dL_law_929 (by decide) ?_
    refine mz_addN hx hb i 1 dL_law_930 ?_
    refine la_sld hx hb hX hbl hbA hS (i + 1) (by omega) hL dL_law_931 ?_
    refine lv_aload_n hx hb dL_law_932 rfl (lv_at hl 1 rfl) ?_
    refine lv_iload hx hb dL_law_933 (lv_at hl 6 rfl) ?_
    refine lv_iconst (v := 2) hx hb dL_law_935 (by decide) ?_
    refine mz_addN hx hb i 2 dL_law_936 ?_
    refine la_sld hx hb hX hbl hbA hS (i + 2) (by omega) hL dL_law_937 ?_
    refine lv_aload_n hx hb dL_law_938 rfl (lv_at hl 1 rfl) ?_
    refine lv_iload hx hb dL_law_939 (lv_at hl 6 rfl) ?_
    refine lv_iconst (v := 3) hx hb dL_law_941 (by decide) ?_
    refine mz_addN hx hb i 3 dL_law_942 ?_
    refine la_sld hx hb hX hbl hbA hS (i + 3) (by omega) hL dL_law_943 ?_
    refine lv_aload_n hx hb dL_law_944 rfl (lv_at hl 1 rfl) ?_
    refine lv_iload hx hb dL_law_945 (lv_at hl 6 rfl) ?_
    refine lv_iconst (v := 4) hx hb dL_law_947 (by decide) ?_
    refine mz_addN hx hb i 4 dL_law_948 ?_
    refine la_sld hx hb hX hbl hbA hS (i + 4) (by omega) hL dL_law_949 ?_
    refine lv_aload_n hx hb dL_law_950 rfl (lv_at hl 1 rfl) ?_
    refine lv_iload hx hb dL_law_951 (lv_at hl 6 rfl) ?_
    refine lv_iconst (v := 5) hx hb dL_law_953 (by decide) ?_
    refine mz_addN hx hb i 5 dL_law_954 ?_
    refine la_sld hx hb hX hbl hbA hS (i + 5) (by omega) hL dL_law_955 ?_
    have hDc : va_D (fun q : Nat => s.heap.size ≤ q) (mC E mm th dy rn cn tn NU WE AT zs BU AV LS LT) := d3 _ _ _ _ _ _ _ _ _ _ _ _ _
    have hFc := fr_free hDc hS hA
    refine va_calli (va_runV (As := [.int (xs (i + 1)), .int (xs (i + 2)), .int (xs (i + 3)), .int (xs (i + 4)), .int (xs (i + 5))]) (rest := []) ⟨hx, hb, hml, hown, hts⟩ (kX5_outlook l E (mm 0) (mm 1) (mm 2) (mm 3) (mm 4) (mm 5) (mm 6) (mm 7) (mm 8) th dy rn cn tn NU WE AT zs BU AV LS LT (xs (i + 1)) (xs (i + 2)) (xs (i + 3)) (xs (i + 4)) (xs (i + 5)) H.size (by first | omega | assumption | exact hz) (by first | omega | assumption | exact hz)) (cwV 5 hts gL_law_X5_outlook rfl rfl rfl (by decide +kernel) ⟨Nat.le_of_ble_eq_true rfl, Nat.le_of_ble_eq_true rfl⟩) ⟨fb_W, va_recv hE.1 hPm (ci := 5) (q0 := 0) rfl rfl, fun U hU hW => ⟨rfl, by rw [hU], by rw [hU]; exact hPm, hDc.weaken (fun _ _ _ _ => trivial), hE.warm hW⟩⟩ rfl rfl hl.1 rfl (lv_room (Nat.le_of_ble_eq_true rfl)) dL_law_956 ⟨by show _ ≤ 601024; omega, by show _ ≤ 7293034; omega⟩) hS (fun q _ h => hFc q h) hFc (fun r956 u t H1 locs ht hvm hw hB hz1 hk1 hS => ?_)
    rw [ht] at hB
    have hPd := ap_keep (a13 _ _ _ _ _ _ _ _ _ _ _ _ _ _ _ _ _ _ _ _).comm hPd hk1
    have hPo := ap_keep (a23 _ _ _ _ _ _ _ _ _ _ _ _ _ _).comm hPo hk1
    have hPg := ap_keep (a34 _ _ _ _ _ _ _ _ _ _ _ _ _ _) hPg hk1
    obtain ⟨hk5, hw⟩ := hw
    have e5 : u = k + 1 := hk5.trans hk9.symm
    subst e5
    have hPm : va_P E.1 vwCl (mC E mm (nI (k + 1)) dy rn cn tn NU WE AT zs BU AV LS LT) H1 := hB
    clear hDc hFc
    generalize H1 = H at hPd hPo hPm hPg hS ⊢
    refine lv_istore (lv' := [(7, .int r956), (6, .int (nI (k + 1))), (0, .ref b), (1, .ref (ad 0)), (2, .ref (mm 0)), (3, .ref o0), (4, .ref d0), (5, .int (nI i))]) hx hb dL_law_959 hl (by decide) rfl (fun ls hl => ?_)
    refine lv_aload_n hx hb dL_law_961 rfl (lv_at hl 4 rfl) ?_
    have hPt : va_P E.1 vwCl [(mm 0, .inr (5, [.int (nI (k + 1)), .int (nI dy), .int (nI rn), .ref (mm 1), .ref (mm 2), .ref (mm 3), .ref (mm 4), .ref (mm 5), .int (nI cn), .ref (mm 6), .int (nI tn), .ref (mm 7), .ref (mm 8)]))] H := hPm.sub [0] rfl
    refine va_calli (va_runV (As := []) (rest := []) ⟨hx, hb, hml, hown, hts⟩ (kX5_thrown l E (mm 0) (mm 1) (mm 2) (mm 3) (mm 4) (mm 5) (mm 6) (mm 7) (mm 8) (nI (k + 1)) dy rn cn tn ) (cwV 0 hts gL_law_X5_thrown rfl rfl rfl (by decide +kernel) ⟨Nat.le_of_ble_eq_true rfl, Nat.le_of_ble_eq_true rfl⟩) ⟨fb_R, va_recv hE.1 hPm (ci := 5) (q0 := 0) rfl rfl, fun U hU hW => ⟨rfl, by rw [hU]; exact hPt, hE.warm hW⟩⟩ rfl rfl hl.1 rfl (lv_room (Nat.le_of_ble_eq_true rfl)) dL_law_962 ⟨by show _ ≤ 601024; omega, by show _ ≤ 7293034; omega⟩) hS (fun q _ h => h.elim) (fun q h => h.elim) (fun r962 u t H1 locs ht hvm hw hB hz1 hk1 hS => ?_)
    have hPd := hPd.ro hk1
    have hPo := hPo.ro hk1
    have hPm := hPm.ro hk1
    have hPg := hPg.ro hk1
    generalize H1 = H at hPd hPo hPm hPg hS ⊢
    subst hw
    refine lv_iload hx hb dL_law_965 (lv_at hl 1 rfl) ?_
    refine mz_eqN hx hb (k + 1) (k + 1) (tgt := 972) dL_law_967 (by decide) (by omega) (by omega) (fun _ => ?_) (fun c9 => absurd rfl c9)
    refine lv_iload hx hb dL_law_972 (lv_at hl 1 rfl) ?_
    refine mz_ifneN hx hb (k + 1) (tgt := 989) dL_law_974 (by decide) (by omega) (fun _ => ?_) (fun c9 => absurd c9 (by omega))
    refine lv_goto (tgt := 1642) hx hb dL_law_989 (by decide) ?_
    refine W.widen (k := cl + 740) (n := sl + 3700) (by omega) (by omega) ?_
    exact K _ _ _ ⟨_, _, _, _, _, _, _, _, _, _, _, _, _, _, _, _, _, hR, hPd, hPo, hPm, hPg⟩ hS (lv_sub hl [2, 3, 4, 5, 6, 7] rfl)
set_option maxHeartbeats 4000000 in
set_option maxRecDepth 100000 in
theorem arm_publish {p : Program} {e : Env} {s : State} {m : MethodId} {below : List Frame} {meth : Method} {c : Code} (l : Launch) (hlt : l.stackTraces = false) {b L : Nat} {xs : Nat → Int32} (hL : L ≤ 3072) (C0 : lw_At p s m meth c b L xs) {E : ev_T} {ad mm : Nat → Nat} {o0 d0 : Nat} (hE : ev_U E s) (hU9 : ex_U (fun q : Nat => s.heap.size ≤ q) s s.heap) (hLD : LD E ad mm o0 d0 (fun q : Nat => s.heap.size ≤ q)) {i cl sl : Nat} (hi : i + 6 ≤ L) (hcl : cl + 740 ≤ 601024) (hsl : sl + 3700 ≤ 7293034)
    (K : ∀ (H : Heap) (locs : List Loc) (ls : Array Slot), LX E ad mm o0 d0 H → va_S (fun q : Nat => s.heap.size ≤ q) s.heap H locs → lv_has ls 9 [(0, .ref b), (1, .ref (ad 0)), (2, .ref (mm 0)), (3, .ref o0), (4, .ref d0), (5, .int (nI i))] → W p l e room_1 s m #[Value.ref b] below meth c H locs (cl + 740) (sl + 3700) (lw_Z below #[Value.ref b] s) (F0 m 1642 ls []))
    {H : Heap} {locs : List Loc} {ls : Array Slot} (hX0 : LX E ad mm o0 d0 H) (hS : va_S (fun q : Nat => s.heap.size ≤ q) s.heap H locs) (hl : lv_has ls 9 [(0, .ref b), (1, .ref (ad 0)), (2, .ref (mm 0)), (3, .ref o0), (4, .ref d0), (5, .int (nI i))]) : W p l e room_1 s m #[Value.ref b] below meth c H locs cl sl (lw_Z below #[Value.ref b] s) (F0 m 992 ls []) := by
  obtain ⟨hx, hb, hr, hml, hown, hts0, hX, hbl, hlocks, hgv⟩ := id C0
  have hts : ∀ w ∈ wsL_law, w.before #[Value.ref b] s = true := fun w h => hts0 w (wsL_law_in w h)
  have hown : s.vm.findClass RL = some m.cls := hown
  obtain ⟨S, zs, rn, dy, bn, cn, tn, th, NU, WE, AT, BU, AV, LS, LT, f0, g0, hR, hPd, hPo, hPm, hPg⟩ := hX0
  obtain ⟨d1, d2, d3, d4, a12, a13, a14, a23, a24, a34⟩ := hLD
  have hA : ∀ q : Nat, s.heap.size ≤ q → (fun q : Nat => s.heap.size ≤ q) q := fun _ h => h
  have hbA : ¬ (fun q : Nat => s.heap.size ≤ q) b := Nat.not_le.mpr hbl
  obtain ⟨h6, h60, h200, h20⟩ := hR.1
  have hz := hR.hz
  refine lv_aload_n hx hb dL_law_992 rfl (lv_at hl 1 rfl) ?_
  refine lv_aload_n hx hb dL_law_993 rfl (lv_at hl 3 rfl) ?_
  have hPw : va_P E.1 vwCl ((dC E ad S zs rn dy bn cn tn) ++ [oL E o0 f0]) H := hPd.app hPo
  have hDw : va_D (fun q : Nat => s.heap.size ≤ q) ((dC E ad S zs rn dy bn cn tn) ++ [oL E o0 f0]) := (d1 _ _ _ _ _ _ _).app (d2 _) (a12 _ _ _ _ _ _ _ _)
  have hFc := fr_free hDw hS hA
  refine va_calli (vx_runSW (As := [.ref (ad 0), .ref o0]) (rest := []) ⟨hx, hb, hml, hown, hts⟩ (kL_publish l hlt E ad S zs rn dy bn cn tn  o0 f0 H.size (by first | omega | assumption | exact h60 | exact h6 | exact h20 | exact h200) (by first | omega | assumption | exact h60 | exact h6 | exact h20 | exact h200) (by first | omega | assumption | exact h60 | exact h6 | exact h20 | exact h200)) (vx_cwSW 2 hts gL_law_L_publish rfl rfl rfl (by decide +kernel) ⟨Nat.le_of_ble_eq_true rfl, Nat.le_of_ble_eq_true rfl⟩) ⟨fb_Y, fun U hU hW => ⟨rfl, by rw [hU], by rw [hU]; exact hPw, hDw.weaken (fun _ _ _ _ => trivial), hE.warm hW, hU9.to hS hFc hU hW⟩⟩ rfl rfl hl.1 rfl (lv_room (Nat.le_of_ble_eq_true rfl)) dL_law_994 ⟨by show _ ≤ 601024; omega, by show _ ≤ 7293034; omega⟩) hS (fun q _ h => hFc q h) hFc (fun r9 k t H1 locs ht hvm hw hB hz1 hk1 hS => ?_)
  obtain ⟨hr9, hk9⟩ := hw
  subst hr9
  rw [ht] at hB
  have hPm := ap_keep (ap.both (a13 _ _ _ _ _ _ _ _ _ _ _ _ _ _ _ _ _ _ _ _) (a23 _ _ _ _ _ _ _ _ _ _ _ _ _ _)) hPm hk1
  have hPg := ap_keep (ap.both (a14 _ _ _ _ _ _ _ _) (a24 _ _)) hPg hk1
  have hle9 := tPub_le zs dy rn
  rcases Nat.eq_zero_or_pos k with hk0 | hk0
  · subst hk0
    have hB : va_P E.1 vwCl ((dC E ad (va_up S 18 (pbD S dy rn)) (va_up zs dy rn) rn dy (bn + 1) cn tn) ++ [oL E o0 (vp_updL f0 0 (Int32.toInt64 (pgD S rn)))]) H1 := hB
    have hPd := fr_l hB
    have hPo := fr_r hB
    clear hPw hDw hFc
    generalize H1 = H at hPd hPo hPm hPg hS ⊢
    refine lv_istore (lv' := [(6, .int 0), (0, .ref b), (1, .ref (ad 0)), (2, .ref (mm 0)), (3, .ref o0), (4, .ref d0), (5, .int (nI i))]) hx hb dL_law_997 hl (by decide) rfl (fun ls hl => ?_)
    refine lv_aload_n hx hb dL_law_999 rfl (lv_at hl 3 rfl) ?_
    have hDc : va_D (fun q : Nat => s.heap.size ≤ q) (mC E mm th dy rn cn tn NU WE AT zs BU AV LS LT) := d3 _ _ _ _ _ _ _ _ _ _ _ _ _
    have hFc := fr_free hDc hS hA
    refine va_calli (va_runV (As := []) (rest := []) ⟨hx, hb, hml, hown, hts⟩ (kX5_publish l E (mm 0) (mm 1) (mm 2) (mm 3) (mm 4) (mm 5) (mm 6) (mm 7) (mm 8) th dy rn cn tn NU WE AT zs BU AV LS LT H.size (by first | omega | assumption | exact hz) (by first | omega | assumption | exact hz) (by first | omega | assumption | exact hz)) (cwV 0 hts gL_law_X5_publish rfl rfl rfl (by decide +kernel) ⟨Nat.le_of_ble_eq_true rfl, Nat.le_of_ble_eq_true rfl⟩) ⟨fb_W, va_recv hE.1 hPm (ci := 5) (q0 := 0) rfl rfl, fun U hU hW => ⟨rfl, by rw [hU], by rw [hU]; exact hPm, hDc.weaken (fun _ _ _ _ => trivial), hE.warm hW⟩⟩ rfl rfl hl.1 rfl (lv_room (Nat.le_of_ble_eq_true rfl)) dL_law_1000 ⟨by show _ ≤ 601024; omega, by show _ ≤ 7293034; omega⟩) hS (fun q _ h => hFc q h) hFc (fun r1000 u t H1 locs ht hvm hw hB hz1 hk1 hS => ?_)
    rw [ht] at hB
    have hPd := ap_keep (a13 _ _ _ _ _ _ _ _ _ _ _ _ _ _ _ _ _ _ _ _).comm hPd hk1
    have hPo := ap_keep (a23 _ _ _ _ _ _ _ _ _ _ _ _ _ _).comm hPo hk1
    have hPg := ap_keep (a34 _ _ _ _ _ _ _ _ _ _ _ _ _ _) hPg hk1
    obtain ⟨hk5, hw⟩ := hw
    have e5 : u = 0 := hk5.trans hk9.symm
    subst e5
    have hw := hw rfl
    have hPm : va_P E.1 vwCl (mC E mm 0 dy rn cn tn NU WE AT (va_up zs dy rn) (pbM NU dy BU rn) AV LS LT) H1 := hB
    clear hDc hFc
    generalize H1 = H at hPd hPo hPm hPg hS ⊢
    subst hw
    obtain ⟨heq, hR⟩ := op_publish hR  hk9
    refine lv_istore (lv' := [(7, .int (pgM NU rn)), (6, .int 0), (0, .ref b), (1, .ref (ad 0)), (2, .ref (mm 0)), (3, .ref o0), (4, .ref d0), (5, .int (nI i))]) hx hb dL_law_1003 hl (by decide) rfl (fun ls hl => ?_)
    refine lv_aload_n hx hb dL_law_1005 rfl (lv_at hl 4 rfl) ?_
    have hPt : va_P E.1 vwCl [(mm 0, .inr (5, [.int 0, .int (nI dy), .int (nI rn), .ref (mm 1), .ref (mm 2), .ref (mm 3), .ref (mm 4), .ref (mm 5), .int (nI cn), .ref (mm 6), .int (nI tn), .ref (mm 7), .ref (mm 8)]))] H := hPm.sub [0] rfl
    refine va_calli (va_runV (As := []) (rest := []) ⟨hx, hb, hml, hown, hts⟩ (kX5_thrown l E (mm 0) (mm 1) (mm 2) (mm 3) (mm 4) (mm 5) (mm 6) (mm 7) (mm 8) 0 dy rn cn tn ) (cwV 0 hts gL_law_X5_thrown rfl rfl rfl (by decide +kernel) ⟨Nat.le_of_ble_eq_true rfl, Nat.le_of_ble_eq_true rfl⟩) ⟨fb_R, va_recv hE.1 hPm (ci := 5) (q0 := 0) rfl rfl, fun U hU hW => ⟨rfl, by rw [hU]; exact hPt, hE.warm hW⟩⟩ rfl rfl hl.1 rfl (lv_room (Nat.le_of_ble_eq_true rfl)) dL_law_1006 ⟨by show _ ≤ 601024; omega, by show _ ≤ 7293034; omega⟩) hS (fun q _ h => h.elim) (fun q h => h.elim) (fun r1006 u t H1 locs ht hvm hw hB hz1 hk1 hS => ?_)
    have hPd := hPd.ro hk1
    have hPo := hPo.ro hk1
    have hPm := hPm.ro hk1
    have hPg := hPg.ro hk1
    generalize H1 = H at hPd hPo hPm hPg hS ⊢
    subst hw
    refine lv_iload hx hb dL_law_1009 (lv_at hl 1 rfl) ?_
    refine mz_eqN hx hb 0 0 (tgt := 1016) dL_law_1011 (by decide) (by omega) (by omega) (fun _ => ?_) (fun c9 => absurd rfl c9)
    refine lv_iload hx hb dL_law_1016 (lv_at hl 1 rfl) ?_
    refine lv_if_ne (tgt := 1033) hx hb dL_law_1018 (by decide) (fun c9 => absurd rfl c9) (fun _ => ?_)
    refine lv_aload_n hx hb dL_law_1021 rfl (lv_at hl 5 rfl) ?_
    refine lv_iconst (v := 0) hx hb dL_law_1022 (by decide) ?_
    refine la_lld hx hb hE hPo dL_law_1023 ?_
    refine lv_iload hx hb dL_law_1024 (lv_at hl 0 rfl) ?_
    refine lv_i2l hx hb dL_law_1026 rfl ?_
    refine la_eqL hx hb (congrArg Int32.toInt64 heq) (tgt := 1033) dL_law_1027 dL_law_1028 (by decide) ?_
    refine lv_goto (tgt := 1642) hx hb dL_law_1033 (by decide) ?_
    refine W.widen (k := cl + 740) (n := sl + 3700) (by omega) (by omega) ?_
    exact K _ _ _ ⟨_, _, _, _, _, _, _, _, _, _, _, _, _, _, _, _, _, hR, hPd, hPo, hPm, hPg⟩ hS (lv_sub hl [2, 3, 4, 5, 6, 7] rfl)
  · obtain ⟨k, rfl⟩ : ∃ k9, k = k9 + 1 := ⟨k - 1, by omega⟩
    have hB : va_P E.1 vwCl ((dC E ad S zs rn dy bn cn tn) ++ [oL E o0 f0]) H1 := hB
    have hPd := fr_l hB
    have hPo := fr_r hB
    clear hPw hDw hFc
    generalize H1 = H at hPd hPo hPm hPg hS ⊢
    refine lv_istore (lv' := [(6, .int (nI (k + 1))), (0, .ref b), (1, .ref (ad 0)), (2, .ref (mm 0)), (3, .ref o0), (4, .ref d0), (5, .int (nI i))]) hx hb dL_law_997 hl (by decide) rfl (fun ls hl => ?_)
    refine lv_aload_n hx hb dL_law_999 rfl (lv_at hl 3 rfl) ?_
    have hDc : va_D (fun q : Nat => s.heap.size ≤ q) (mC E mm th dy rn cn tn NU WE AT zs BU AV LS LT) := d3 _ _ _ _ _ _ _ _ _ _ _ _ _
    have hFc := fr_free hDc hS hA
    refine va_calli (va_runV (As := []) (rest := []) ⟨hx, hb, hml, hown, hts⟩ (kX5_publish l E (mm 0) (mm 1) (mm 2) (mm 3) (mm 4) (mm 5) (mm 6) (mm 7) (mm 8) th dy rn cn tn NU WE AT zs BU AV LS LT H.size (by first | omega | assumption | exact hz) (by first | omega | assumption | exact hz) (by first | omega | assumption | exact hz)) (cwV 0 hts gL_law_X5_publish rfl rfl rfl (by decide +kernel) ⟨Nat.le_of_ble_eq_true rfl, Nat.le_of_ble_eq_true rfl⟩) ⟨fb_W, va_recv hE.1 hPm (ci := 5) (q0 := 0) rfl rfl, fun U hU hW => ⟨rfl, by rw [hU], by rw [hU]; exact hPm, hDc.weaken (fun _ _ _ _ => trivial), hE.warm hW⟩⟩ rfl rfl hl.1 rfl (lv_room (Nat.le_of_ble_eq_true rfl)) dL_law_1000 ⟨by show _ ≤ 601024; omega, by show _ ≤ 7293034; omega⟩) hS (fun q _ h => hFc q h) hFc (fun r1000 u t H1 locs ht hvm hw hB hz1 hk1 hS => ?_)
    rw [ht] at hB
    have hPd := ap_keep (a13 _ _ _ _ _ _ _ _ _ _ _ _ _ _ _ _ _ _ _ _).comm hPd hk1
    have hPo := ap_keep (a23 _ _ _ _ _ _ _ _ _ _ _ _ _ _).comm hPo hk1
    have hPg := ap_keep (a34 _ _ _ _ _ _ _ _ _ _ _ _ _ _) hPg hk1
    obtain ⟨hk5, hw⟩ := hw
    have e5 : u = k + 1 := hk5.trans hk9.symm
    subst e5
    have hPm : va_P E.1 vwCl (mC E mm (nI (k + 1)) dy rn cn tn NU WE AT zs BU AV LS LT) H1 := hB
    clear hDc hFc
    generalize H1 = H at hPd hPo hPm hPg hS ⊢
    refine lv_istore (lv' := [(7, .int r1000), (6, .int (nI (k + 1))), (0, .ref b), (1, .ref (ad 0)), (2, .ref (mm 0)), (3, .ref o0), (4, .ref d0), (5, .int (nI i))]) hx hb dL_law_1003 hl (by decide) rfl (fun ls hl => ?_)
    refine lv_aload_n hx hb dL_law_1005 rfl (lv_at hl 4 rfl) ?_
    have hPt : va_P E.1 vwCl [(mm 0, .inr (5, [.int (nI (k + 1)), .int (nI dy), .int (nI rn), .ref (mm 1), .ref (mm 2), .ref (mm 3), .ref (mm 4), .ref (mm 5), .int (nI cn), .ref (mm 6), .int (nI tn), .ref (mm 7), .ref (mm 8)]))] H := hPm.sub [0] rfl
    refine va_calli (va_runV (As := []) (rest := []) ⟨hx, hb, hml, hown, hts⟩ (kX5_thrown l E (mm 0) (mm 1) (mm 2) (mm 3) (mm 4) (mm 5) (mm 6) (mm 7) (mm 8) (nI (k + 1)) dy rn cn tn ) (cwV 0 hts gL_law_X5_thrown rfl rfl rfl (by decide +kernel) ⟨Nat.le_of_ble_eq_true rfl, Nat.le_of_ble_eq_true rfl⟩) ⟨fb_R, va_recv hE.1 hPm (ci := 5) (q0 := 0) rfl rfl, fun U hU hW => ⟨rfl, by rw [hU]; exact hPt, hE.warm hW⟩⟩ rfl rfl hl.1 rfl (lv_room (Nat.le_of_ble_eq_true rfl)) dL_law_1006 ⟨by show _ ≤ 601024; omega, by show _ ≤ 7293034; omega⟩) hS (fun q _ h => h.elim) (fun q h => h.elim) (fun r1006 u t H1 locs ht hvm hw hB hz1 hk1 hS => ?_)
    have hPd := hPd.ro hk1
    have hPo := hPo.ro hk1
    have hPm := hPm.ro hk1
    have hPg := hPg.ro hk1
    generalize H1 = H at hPd hPo hPm hPg hS ⊢
    subst hw
    refine lv_iload hx hb dL_law_1009 (lv_at hl 1 rfl) ?_
    refine mz_eqN hx hb (k + 1) (k + 1) (tgt := 1016) dL_law_1011 (by decide) (by omega) (by omega) (fun _ => ?_) (fun c9 => absurd rfl c9)
    refine lv_iload hx hb dL_law_1016 (lv_at hl 1 rfl) ?_
    refine mz_ifneN hx hb (k + 1) (tgt := 1033) dL_law_1018 (by decide) (by omega) (fun _ => ?_) (fun c9 => absurd c9 (by omega))
    refine lv_goto (tgt := 1642) hx hb dL_law_1033 (by decide) ?_
    refine W.widen (k := cl + 740) (n := sl + 3700) (by omega) (by omega) ?_
    exact K _ _ _ ⟨_, _, _, _, _, _, _, _, _, _, _, _, _, _, _, _, _, hR, hPd, hPo, hPm, hPg⟩ hS (lv_sub hl [2, 3, 4, 5, 6, 7] rfl)
set_option maxHeartbeats 4000000 in
set_option maxRecDepth 100000 in
theorem arm_bulletin {p : Program} {e : Env} {s : State} {m : MethodId} {below : List Frame} {meth : Method} {c : Code} (l : Launch) (hlt : l.stackTraces = false) {b L : Nat} {xs : Nat → Int32} (hL : L ≤ 3072) (C0 : lw_At p s m meth c b L xs) {E : ev_T} {ad mm : Nat → Nat} {o0 d0 : Nat} (hE : ev_U E s) (hU9 : ex_U (fun q : Nat => s.heap.size ≤ q) s s.heap) (hLD : LD E ad mm o0 d0 (fun q : Nat => s.heap.size ≤ q)) {i cl sl : Nat} (hi : i + 6 ≤ L) (hcl : cl + 740 ≤ 601024) (hsl : sl + 3700 ≤ 7293034)
    (K : ∀ (H : Heap) (locs : List Loc) (ls : Array Slot), LX E ad mm o0 d0 H → va_S (fun q : Nat => s.heap.size ≤ q) s.heap H locs → lv_has ls 9 [(0, .ref b), (1, .ref (ad 0)), (2, .ref (mm 0)), (3, .ref o0), (4, .ref d0), (5, .int (nI i))] → W p l e room_1 s m #[Value.ref b] below meth c H locs (cl + 740) (sl + 3700) (lw_Z below #[Value.ref b] s) (F0 m 1642 ls []))
    {H : Heap} {locs : List Loc} {ls : Array Slot} (hX0 : LX E ad mm o0 d0 H) (hS : va_S (fun q : Nat => s.heap.size ≤ q) s.heap H locs) (hl : lv_has ls 9 [(0, .ref b), (1, .ref (ad 0)), (2, .ref (mm 0)), (3, .ref o0), (4, .ref d0), (5, .int (nI i))]) : W p l e room_1 s m #[Value.ref b] below meth c H locs cl sl (lw_Z below #[Value.ref b] s) (F0 m 1036 ls []) := by
  obtain ⟨hx, hb, hr, hml, hown, hts0, hX, hbl, hlocks, hgv⟩ := id C0
  have hts : ∀ w ∈ wsL_law, w.before #[Value.ref b] s = true := fun w h => hts0 w (wsL_law_in w h)
  have hown : s.vm.findClass RL = some m.cls := hown
  obtain ⟨S, zs, rn, dy, bn, cn, tn, th, NU, WE, AT, BU, AV, LS, LT, f0, g0, hR, hPd, hPo, hPm, hPg⟩ := hX0
  obtain ⟨d1, d2, d3, d4, a12, a13, a14, a23, a24, a34⟩ := hLD
  have hA : ∀ q : Nat, s.heap.size ≤ q → (fun q : Nat => s.heap.size ≤ q) q := fun _ h => h
  have hbA : ¬ (fun q : Nat => s.heap.size ≤ q) b := Nat.not_le.mpr hbl
  obtain ⟨h6, h60, h200, h20⟩ := hR.1
  have hz := hR.hz
  refine lv_aload_n hx hb dL_law_1036 rfl (lv_at hl 1 rfl) ?_
  refine lv_aload_n hx hb dL_law_1037 rfl (lv_at hl 0 rfl) ?_
  refine lv_iload hx hb dL_law_1038 (lv_at hl 5 rfl) ?_
  refine lv_iconst (v := 1) hx hb dL_law_1040 (by decide) ?_
  refine mz_addN hx hb i 1 dL_law_1041 ?_
  refine la_sld hx hb hX hbl hbA hS (i + 1) (by omega) hL dL_law_1042 ?_
  refine lv_aload_n hx hb dL_law_1043 rfl (lv_at hl 0 rfl) ?_
  refine lv_iload hx hb dL_law_1044 (lv_at hl 5 rfl) ?_
  refine lv_iconst (v := 2) hx hb dL_law_1046 (by decide) ?_
  refine mz_addN hx hb i 2 dL_law_1047 ?_
  refine la_sld hx hb hX hbl hbA hS (i + 2) (by omega) hL dL_law_1048 ?_
  refine lv_aload_n hx hb dL_law_1049 rfl (lv_at hl 0 rfl) ?_
  refine lv_iload hx hb dL_law_1050 (lv_at hl 5 rfl) ?_
  refine lv_iconst (v := 3) hx hb dL_law_1052 (by decide) ?_
  refine mz_addN hx hb i 3 dL_law_1053 ?_
  refine la_sld hx hb hX hbl hbA hS (i + 3) (by omega) hL dL_law_1054 ?_
  refine lv_aload_n hx hb dL_law_1055 rfl (lv_at hl 3 rfl) ?_
  have hPw : va_P E.1 vwCl ((dC E ad S zs rn dy bn cn tn) ++ [oL E o0 f0]) H := hPd.app hPo
  have hDw : va_D (fun q : Nat => s.heap.size ≤ q) ((dC E ad S zs rn dy bn cn tn) ++ [oL E o0 f0]) := (d1 _ _ _ _ _ _ _).app (d2 _) (a12 _ _ _ _ _ _ _ _)
  have hFc := fr_free hDw hS hA
  refine va_calli (vx_runSW (As := [.ref (ad 0), .int (xs (i + 1)), .int (xs (i + 2)), .int (xs (i + 3)), .ref o0]) (rest := []) ⟨hx, hb, hml, hown, hts⟩ (kL_bulletin l hlt E ad S zs rn dy bn cn tn (xs (i + 1)) (xs (i + 2)) (xs (i + 3)) o0 f0 H.size (by first | omega | assumption | exact h60 | exact h6 | exact h20 | exact h200) (by first | omega | assumption | exact h60 | exact h6 | exact h20 | exact h200) (by first | omega | assumption | exact h60 | exact h6 | exact h20 | exact h200)) (vx_cwSW 5 hts gL_law_L_bulletin rfl rfl rfl (by decide +kernel) ⟨Nat.le_of_ble_eq_true rfl, Nat.le_of_ble_eq_true rfl⟩) ⟨fb_Y, fun U hU hW => ⟨rfl, by rw [hU], by rw [hU]; exact hPw, hDw.weaken (fun _ _ _ _ => trivial), hE.warm hW, hU9.to hS hFc hU hW⟩⟩ rfl rfl hl.1 rfl (lv_room (Nat.le_of_ble_eq_true rfl)) dL_law_1056 ⟨by show _ ≤ 601024; omega, by show _ ≤ 7293034; omega⟩) hS (fun q _ h => hFc q h) hFc (fun r9 k t H1 locs ht hvm hw hB hz1 hk1 hS => ?_)
  obtain ⟨hr9, hk9⟩ := hw
  subst hr9
  rw [ht] at hB
  have hPm := ap_keep (ap.both (a13 _ _ _ _ _ _ _ _ _ _ _ _ _ _ _ _ _ _ _ _) (a23 _ _ _ _ _ _ _ _ _ _ _ _ _ _)) hPm hk1
  have hPg := ap_keep (ap.both (a14 _ _ _ _ _ _ _ _) (a24 _ _)) hPg hk1
  have hle9 := tBul_le zs (xs (i + 1)) (xs (i + 2)) (xs (i + 3))
  rcases Nat.eq_zero_or_pos k with hk0 | hk0
  · subst hk0
    have hB : va_P E.1 vwCl ((dC E ad S zs rn dy bn cn tn) ++ [oL E o0 (vp_updL f0 0 (Int32.toInt64 (S 18 (((Int32.toNatClampNeg (xs (i + 1))) * 6 + (Int32.toNatClampNeg (xs (i + 2)))) * 3 + (Int32.toNatClampNeg (xs (i + 3)))))))]) H1 := hB
    have hPd := fr_l hB
    have hPo := fr_r hB
    clear hPw hDw hFc
    generalize H1 = H at hPd hPo hPm hPg hS ⊢
    refine lv_istore (lv' := [(6, .int 0), (0, .ref b), (1, .ref (ad 0)), (2, .ref (mm 0)), (3, .ref o0), (4, .ref d0), (5, .int (nI i))]) hx hb dL_law_1059 hl (by decide) rfl (fun ls hl => ?_)
    refine lv_aload_n hx hb dL_law_1061 rfl (lv_at hl 3 rfl) ?_
    refine lv_aload_n hx hb dL_law_1062 rfl (lv_at hl 1 rfl) ?_
    refine lv_iload hx hb dL_law_1063 (lv_at hl 6 rfl) ?_
    refine lv_iconst (v := 1) hx hb dL_law_1065 (by decide) ?_
    refine mz_addN hx hb i 1 dL_law_1066 ?_
    refine la_sld hx hb hX hbl hbA hS (i + 1) (by omega) hL dL_law_1067 ?_
    refine lv_aload_n hx hb dL_law_1068 rfl (lv_at hl 1 rfl) ?_
    refine lv_iload hx hb dL_law_1069 (lv_at hl 6 rfl) ?_
    refine lv_iconst (v := 2) hx hb dL_law_1071 (by decide) ?_
    refine mz_addN hx hb i 2 dL_law_1072 ?_
    refine la_sld hx hb hX hbl hbA hS (i + 2) (by omega) hL dL_law_1073 ?_
    refine lv_aload_n hx hb dL_law_1074 rfl (lv_at hl 1 rfl) ?_
    refine lv_iload hx hb dL_law_1075 (lv_at hl 6 rfl) ?_
    refine lv_iconst (v := 3) hx hb dL_law_1077 (by decide) ?_
    refine mz_addN hx hb i 3 dL_law_1078 ?_
    refine la_sld hx hb hX hbl hbA hS (i + 3) (by omega) hL dL_law_1079 ?_
    have hDc : va_D (fun q : Nat => s.heap.size ≤ q) (mC E mm th dy rn cn tn NU WE AT zs BU AV LS LT) := d3 _ _ _ _ _ _ _ _ _ _ _ _ _
    have hFc := fr_free hDc hS hA
    refine va_calli (va_runV (As := [.int (xs (i + 1)), .int (xs (i + 2)), .int (xs (i + 3))]) (rest := []) ⟨hx, hb, hml, hown, hts⟩ (kX5_bulletin l E (mm 0) (mm 1) (mm 2) (mm 3) (mm 4) (mm 5) (mm 6) (mm 7) (mm 8) th dy rn cn tn NU WE AT zs BU AV LS LT (xs (i + 1)) (xs (i + 2)) (xs (i + 3)) H.size (by first | omega | assumption | exact hz) (by first | omega | assumption | exact hz) (by first | omega | assumption | exact hz)) (cwV 3 hts gL_law_X5_bulletin rfl rfl rfl (by decide +kernel) ⟨Nat.le_of_ble_eq_true rfl, Nat.le_of_ble_eq_true rfl⟩) ⟨fb_W, va_recv hE.1 hPm (ci := 5) (q0 := 0) rfl rfl, fun U hU hW => ⟨rfl, by rw [hU], by rw [hU]; exact hPm, hDc.weaken (fun _ _ _ _ => trivial), hE.warm hW⟩⟩ rfl rfl hl.1 rfl (lv_room (Nat.le_of_ble_eq_true rfl)) dL_law_1080 ⟨by show _ ≤ 601024; omega, by show _ ≤ 7293034; omega⟩) hS (fun q _ h => hFc q h) hFc (fun r1080 u t H1 locs ht hvm hw hB hz1 hk1 hS => ?_)
    rw [ht] at hB
    have hPd := ap_keep (a13 _ _ _ _ _ _ _ _ _ _ _ _ _ _ _ _ _ _ _ _).comm hPd hk1
    have hPo := ap_keep (a23 _ _ _ _ _ _ _ _ _ _ _ _ _ _).comm hPo hk1
    have hPg := ap_keep (a34 _ _ _ _ _ _ _ _ _ _ _ _ _ _) hPg hk1
    obtain ⟨hk5, hw⟩ := hw
    have e5 : u = 0 := hk5.trans hk9.symm
    subst e5
    have hw := hw rfl
    have hPm : va_P E.1 vwCl (mC E mm 0 dy rn cn tn NU WE AT zs BU AV LS LT) H1 := hB
    clear hDc hFc
    generalize H1 = H at hPd hPo hPm hPg hS ⊢
    subst hw
    have heq := op_bulletin hR (xs (i + 1)) (xs (i + 2)) (xs (i + 3))
    refine lv_istore (lv' := [(7, .int (BU ((6 * (Int32.toNatClampNeg (xs (i + 1))) + (Int32.toNatClampNeg (xs (i + 2)))) * 3 + (Int32.toNatClampNeg (xs (i + 3)))))), (6, .int 0), (0, .ref b), (1, .ref (ad 0)), (2, .ref (mm 0)), (3, .ref o0), (4, .ref d0), (5, .int (nI i))]) hx hb dL_law_1083 hl (by decide) rfl (fun ls hl => ?_)
    refine lv_aload_n hx hb dL_law_1085 rfl (lv_at hl 4 rfl) ?_
    have hPt : va_P E.1 vwCl [(mm 0, .inr (5, [.int 0, .int (nI dy), .int (nI rn), .ref (mm 1), .ref (mm 2), .ref (mm 3), .ref (mm 4), .ref (mm 5), .int (nI cn), .ref (mm 6), .int (nI tn), .ref (mm 7), .ref (mm 8)]))] H := hPm.sub [0] rfl
    refine va_calli (va_runV (As := []) (rest := []) ⟨hx, hb, hml, hown, hts⟩ (kX5_thrown l E (mm 0) (mm 1) (mm 2) (mm 3) (mm 4) (mm 5) (mm 6) (mm 7) (mm 8) 0 dy rn cn tn ) (cwV 0 hts gL_law_X5_thrown rfl rfl rfl (by decide +kernel) ⟨Nat.le_of_ble_eq_true rfl, Nat.le_of_ble_eq_true rfl⟩) ⟨fb_R, va_recv hE.1 hPm (ci := 5) (q0 := 0) rfl rfl, fun U hU hW => ⟨rfl, by rw [hU]; exact hPt, hE.warm hW⟩⟩ rfl rfl hl.1 rfl (lv_room (Nat.le_of_ble_eq_true rfl)) dL_law_1086 ⟨by show _ ≤ 601024; omega, by show _ ≤ 7293034; omega⟩) hS (fun q _ h => h.elim) (fun q h => h.elim) (fun r1086 u t H1 locs ht hvm hw hB hz1 hk1 hS => ?_)
    have hPd := hPd.ro hk1
    have hPo := hPo.ro hk1
    have hPm := hPm.ro hk1
    have hPg := hPg.ro hk1
    generalize H1 = H at hPd hPo hPm hPg hS ⊢
    subst hw
    refine lv_iload hx hb dL_law_1089 (lv_at hl 1 rfl) ?_
    refine mz_eqN hx hb 0 0 (tgt := 1096) dL_law_1091 (by decide) (by omega) (by omega) (fun _ => ?_) (fun c9 => absurd rfl c9)
    refine lv_iload hx hb dL_law_1096 (lv_at hl 1 rfl) ?_
    refine lv_if_ne (tgt := 1113) hx hb dL_law_1098 (by decide) (fun c9 => absurd rfl c9) (fun _ => ?_)
    refine lv_aload_n hx hb dL_law_1101 rfl (lv_at hl 5 rfl) ?_
    refine lv_iconst (v := 0) hx hb dL_law_1102 (by decide) ?_
    refine la_lld hx hb hE hPo dL_law_1103 ?_
    refine lv_iload hx hb dL_law_1104 (lv_at hl 0 rfl) ?_
    refine lv_i2l hx hb dL_law_1106 rfl ?_
    refine la_eqL hx hb (congrArg Int32.toInt64 heq) (tgt := 1113) dL_law_1107 dL_law_1108 (by decide) ?_
    refine lv_goto (tgt := 1642) hx hb dL_law_1113 (by decide) ?_
    refine W.widen (k := cl + 740) (n := sl + 3700) (by omega) (by omega) ?_
    exact K _ _ _ ⟨_, _, _, _, _, _, _, _, _, _, _, _, _, _, _, _, _, hR, hPd, hPo, hPm, hPg⟩ hS (lv_sub hl [2, 3, 4, 5, 6, 7] rfl)
  · obtain ⟨k, rfl⟩ : ∃ k9, k = k9 + 1 := ⟨k - 1, by omega⟩
    have hB : va_P E.1 vwCl ((dC E ad S zs rn dy bn cn tn) ++ [oL E o0 f0]) H1 := hB
    have hPd := fr_l hB
    have hPo := fr_r hB
    clear hPw hDw hFc
    generalize H1 = H at hPd hPo hPm hPg hS ⊢
    refine lv_istore (lv' := [(6, .int (nI (k + 1))), (0, .ref b), (1, .ref (ad 0)), (2, .ref (mm 0)), (3, .ref o0), (4, .ref d0), (5, .int (nI i))]) hx hb dL_law_1059 hl (by decide) rfl (fun ls hl => ?_)
    refine lv_aload_n hx hb dL_law_1061 rfl (lv_at hl 3 rfl) ?_
    refine lv_aload_n hx hb dL_law_1062 rfl (lv_at hl 1 rfl) ?_
    refine lv_iload hx hb dL_law_1063 (lv_at hl 6 rfl) ?_
    refine lv_iconst (v := 1) hx hb dL_law_1065 (by decide) ?_
    refine mz_addN hx hb i 1 dL_law_1066 ?_
    refine la_sld hx hb hX hbl hbA hS (i + 1) (by omega) hL dL_law_1067 ?_
    refine lv_aload_n hx hb dL_law_1068 rfl (lv_at hl 1 rfl) ?_
    refine lv_iload hx hb dL_law_1069 (lv_at hl 6 rfl) ?_
    refine lv_iconst (v := 2) hx hb dL_law_1071 (by decide) ?_
    refine mz_addN hx hb i 2 dL_law_1072 ?_
    refine la_sld hx hb hX hbl hbA hS (i + 2) (by omega) hL dL_law_1073 ?_
    refine lv_aload_n hx hb dL_law_1074 rfl (lv_at hl 1 rfl) ?_
    refine lv_iload hx hb dL_law_1075 (lv_at hl 6 rfl) ?_
    refine lv_iconst (v := 3) hx hb dL_law_1077 (by decide) ?_
    refine mz_addN hx hb i 3 dL_law_1078 ?_
    refine la_sld hx hb hX hbl hbA hS (i + 3) (by omega) hL dL_law_1079 ?_
    have hDc : va_D (fun q : Nat => s.heap.size ≤ q) (mC E mm th dy rn cn tn NU WE AT zs BU AV LS LT) := d3 _ _ _ _ _ _ _ _ _ _ _ _ _
    have hFc := fr_free hDc hS hA
    refine va_calli (va_runV (As := [.int (xs (i + 1)), .int (xs (i + 2)), .int (xs (i + 3))]) (rest := []) ⟨hx, hb, hml, hown, hts⟩ (kX5_bulletin l E (mm 0) (mm 1) (mm 2) (mm 3) (mm 4) (mm 5) (mm 6) (mm 7) (mm 8) th dy rn cn tn NU WE AT zs BU AV LS LT (xs (i + 1)) (xs (i + 2)) (xs (i + 3)) H.size (by first | omega | assumption | exact hz) (by first | omega | assumption | exact hz) (by first | omega | assumption | exact hz)) (cwV 3 hts gL_law_X5_bulletin rfl rfl rfl (by decide +kernel) ⟨Nat.le_of_ble_eq_true rfl, Nat.le_of_ble_eq_true rfl⟩) ⟨fb_W, va_recv hE.1 hPm (ci := 5) (q0 := 0) rfl rfl, fun U hU hW => ⟨rfl, by rw [hU], by rw [hU]; exact hPm, hDc.weaken (fun _ _ _ _ => trivial), hE.warm hW⟩⟩ rfl rfl hl.1 rfl (lv_room (Nat.le_of_ble_eq_true rfl)) dL_law_1080 ⟨by show _ ≤ 601024; omega, by show _ ≤ 7293034; omega⟩) hS (fun q _ h => hFc q h) hFc (fun r1080 u t H1 locs ht hvm hw hB hz1 hk1 hS => ?_)
    rw [ht] at hB
    have hPd := ap_keep (a13 _ _ _ _ _ _ _ _ _ _ _ _ _ _ _ _ _ _ _ _).comm hPd hk1
    have hPo := ap_keep (a23 _ _ _ _ _ _ _ _ _ _ _ _ _ _).comm hPo hk1
    have hPg := ap_keep (a34 _ _ _ _ _ _ _ _ _ _ _ _ _ _) hPg hk1
    obtain ⟨hk5, hw⟩ := hw
    have e5 : u = k + 1 := hk5.trans hk9.symm
    subst e5
    have hPm : va_P E.1 vwCl (mC E mm (nI (k + 1)) dy rn cn tn NU WE AT zs BU AV LS LT) H1 := hB
    clear hDc hFc
    generalize H1 = H at hPd hPo hPm hPg hS ⊢
    refine lv_istore (lv' := [(7, .int r1080), (6, .int (nI (k + 1))), (0, .ref b), (1, .ref (ad 0)), (2, .ref (mm 0)), (3, .ref o0), (4, .ref d0), (5, .int (nI i))]) hx hb dL_law_1083 hl (by decide) rfl (fun ls hl => ?_)
    refine lv_aload_n hx hb dL_law_1085 rfl (lv_at hl 4 rfl) ?_
    have hPt : va_P E.1 vwCl [(mm 0, .inr (5, [.int (nI (k + 1)), .int (nI dy), .int (nI rn), .ref (mm 1), .ref (mm 2), .ref (mm 3), .ref (mm 4), .ref (mm 5), .int (nI cn), .ref (mm 6), .int (nI tn), .ref (mm 7), .ref (mm 8)]))] H := hPm.sub [0] rfl
    refine va_calli (va_runV (As := []) (rest := []) ⟨hx, hb, hml, hown, hts⟩ (kX5_thrown l E (mm 0) (mm 1) (mm 2) (mm 3) (mm 4) (mm 5) (mm 6) (mm 7) (mm 8) (nI (k + 1)) dy rn cn tn ) (cwV 0 hts gL_law_X5_thrown rfl rfl rfl (by decide +kernel) ⟨Nat.le_of_ble_eq_true rfl, Nat.le_of_ble_eq_true rfl⟩) ⟨fb_R, va_recv hE.1 hPm (ci := 5) (q0 := 0) rfl rfl, fun U hU hW => ⟨rfl, by rw [hU]; exact hPt, hE.warm hW⟩⟩ rfl rfl hl.1 rfl (lv_room (Nat.le_of_ble_eq_true rfl)) dL_law_1086 ⟨by show _ ≤ 601024; omega, by show _ ≤ 7293034; omega⟩) hS (fun q _ h => h.elim) (fun q h => h.elim) (fun r1086 u t H1 locs ht hvm hw hB hz1 hk1 hS => ?_)
    have hPd := hPd.ro hk1
    have hPo := hPo.ro hk1
    have hPm := hPm.ro hk1
    have hPg := hPg.ro hk1
    generalize H1 = H at hPd hPo hPm hPg hS ⊢
    subst hw
    refine lv_iload hx hb dL_law_1089 (lv_at hl 1 rfl) ?_
    refine mz_eqN hx hb (k + 1) (k + 1) (tgt := 1096) dL_law_1091 (by decide) (by omega) (by omega) (fun _ => ?_) (fun c9 => absurd rfl c9)
    refine lv_iload hx hb dL_law_1096 (lv_at hl 1 rfl) ?_
    refine mz_ifneN hx hb (k + 1) (tgt := 1113) dL_law_1098 (by decide) (by omega) (fun _ => ?_) (fun c9 => absurd c9 (by omega))
    refine lv_goto (tgt := 1642) hx hb dL_law_1113 (by decide) ?_
    refine W.widen (k := cl + 740) (n := sl + 3700) (by omega) (by omega) ?_
    exact K _ _ _ ⟨_, _, _, _, _, _, _, _, _, _, _, _, _, _, _, _, _, hR, hPd, hPo, hPm, hPg⟩ hS (lv_sub hl [2, 3, 4, 5, 6, 7] rfl)
set_option maxHeartbeats 4000000 in
set_option maxRecDepth 100000 in
theorem arm_bulletins {p : Program} {e : Env} {s : State} {m : MethodId} {below : List Frame} {meth : Method} {c : Code} (l : Launch) (hlt : l.stackTraces = false) {b L : Nat} {xs : Nat → Int32} (hL : L ≤ 3072) (C0 : lw_At p s m meth c b L xs) {E : ev_T} {ad mm : Nat → Nat} {o0 d0 : Nat} (hE : ev_U E s) (hU9 : ex_U (fun q : Nat => s.heap.size ≤ q) s s.heap) (hLD : LD E ad mm o0 d0 (fun q : Nat => s.heap.size ≤ q)) {i cl sl : Nat} (hi : i + 6 ≤ L) (hcl : cl + 740 ≤ 601024) (hsl : sl + 3700 ≤ 7293034)
    (K : ∀ (H : Heap) (locs : List Loc) (ls : Array Slot), LX E ad mm o0 d0 H → va_S (fun q : Nat => s.heap.size ≤ q) s.heap H locs → lv_has ls 9 [(0, .ref b), (1, .ref (ad 0)), (2, .ref (mm 0)), (3, .ref o0), (4, .ref d0), (5, .int (nI i))] → W p l e room_1 s m #[Value.ref b] below meth c H locs (cl + 740) (sl + 3700) (lw_Z below #[Value.ref b] s) (F0 m 1642 ls []))
    {H : Heap} {locs : List Loc} {ls : Array Slot} (hX0 : LX E ad mm o0 d0 H) (hS : va_S (fun q : Nat => s.heap.size ≤ q) s.heap H locs) (hl : lv_has ls 9 [(0, .ref b), (1, .ref (ad 0)), (2, .ref (mm 0)), (3, .ref o0), (4, .ref d0), (5, .int (nI i))]) : W p l e room_1 s m #[Value.ref b] below meth c H locs cl sl (lw_Z below #[Value.ref b] s) (F0 m 1116 ls []) := by
  obtain ⟨hx, hb, hr, hml, hown, hts0, hX, hbl, hlocks, hgv⟩ := id C0
  have hts : ∀ w ∈ wsL_law, w.before #[Value.ref b] s = true := fun w h => hts0 w (wsL_law_in w h)
  have hown : s.vm.findClass RL = some m.cls := hown
  obtain ⟨S, zs, rn, dy, bn, cn, tn, th, NU, WE, AT, BU, AV, LS, LT, f0, g0, hR, hPd, hPo, hPm, hPg⟩ := hX0
  obtain ⟨d1, d2, d3, d4, a12, a13, a14, a23, a24, a34⟩ := hLD
  have hA : ∀ q : Nat, s.heap.size ≤ q → (fun q : Nat => s.heap.size ≤ q) q := fun _ h => h
  have hbA : ¬ (fun q : Nat => s.heap.size ≤ q) b := Nat.not_le.mpr hbl
  obtain ⟨h6, h60, h200, h20⟩ := hR.1
  have hz := hR.hz
  refine lv_aload_n hx hb dL_law_1116 rfl (lv_at hl 1 rfl) ?_
  refine va_calli (va_runV (As := []) (rest := []) ⟨hx, hb, hml, hown, hts⟩ (kX4_bulletins l E ad S zs rn dy bn cn tn (by first | omega | assumption | exact hz) (by first | omega | assumption | exact hz)) (cwV 0 hts gL_law_X4_bulletins rfl rfl rfl (by decide +kernel) ⟨Nat.le_of_ble_eq_true rfl, Nat.le_of_ble_eq_true rfl⟩) ⟨fb_R, va_recv hE.1 hPd (ci := 4) (q0 := 0) rfl rfl, fun U hU hW => ⟨rfl, by rw [hU]; exact hPd, hE.warm hW⟩⟩ rfl rfl hl.1 rfl (lv_room (Nat.le_of_ble_eq_true rfl)) dL_law_1117 ⟨by show _ ≤ 601024; omega, by show _ ≤ 7293034; omega⟩) hS (fun q _ h => h.elim) (fun q h => h.elim) (fun r1117 u t H1 locs ht hvm hw hB hz1 hk1 hS => ?_)
  have hPd := hPd.ro hk1
  have hPo := hPo.ro hk1
  have hPm := hPm.ro hk1
  have hPg := hPg.ro hk1
  generalize H1 = H at hPd hPo hPm hPg hS ⊢
  subst hw
  refine lv_aload_n hx hb dL_law_1120 rfl (lv_at hl 2 rfl) ?_
  have hDc : va_D (fun q : Nat => s.heap.size ≤ q) (mC E mm th dy rn cn tn NU WE AT zs BU AV LS LT) := d3 _ _ _ _ _ _ _ _ _ _ _ _ _
  have hFc := fr_free hDc hS hA
  refine va_calli (va_runV (As := []) (rest := [.int (nI bn)]) ⟨hx, hb, hml, hown, hts⟩ (kX5_bulletins l E (mm 0) (mm 1) (mm 2) (mm 3) (mm 4) (mm 5) (mm 6) (mm 7) (mm 8) th dy rn cn tn NU WE AT zs BU AV LS LT H.size (by first | omega | assumption | exact hz)) (cwV 0 hts gL_law_X5_bulletins rfl rfl rfl (by decide +kernel) ⟨Nat.le_of_ble_eq_true rfl, Nat.le_of_ble_eq_true rfl⟩) ⟨fb_W, va_recv hE.1 hPm (ci := 5) (q0 := 0) rfl rfl, fun U hU hW => ⟨rfl, by rw [hU], by rw [hU]; exact hPm, hDc.weaken (fun _ _ _ _ => trivial), hE.warm hW⟩⟩ rfl rfl hl.1 rfl (lv_room (Nat.le_of_ble_eq_true rfl)) dL_law_1121 ⟨by show _ ≤ 601024; omega, by show _ ≤ 7293034; omega⟩) hS (fun q _ h => hFc q h) hFc (fun r1121 u t H1 locs ht hvm hw hB hz1 hk1 hS => ?_)
  rw [ht] at hB
  have hPd := ap_keep (a13 _ _ _ _ _ _ _ _ _ _ _ _ _ _ _ _ _ _ _ _).comm hPd hk1
  have hPo := ap_keep (a23 _ _ _ _ _ _ _ _ _ _ _ _ _ _).comm hPo hk1
  have hPg := ap_keep (a34 _ _ _ _ _ _ _ _ _ _ _ _ _ _) hPg hk1
  have hPm : va_P E.1 vwCl (mC E mm 0 dy rn cn tn NU WE AT zs BU AV LS LT) H1 := hB
  clear hDc hFc
  generalize H1 = H at hPd hPo hPm hPg hS ⊢
  subst hw
  refine lv_icmp_eq (tgt := 1642) hx hb dL_law_1124 (by decide) (fun _ => ?_) (fun c9 => absurd (hR.2.2.2.2.2.2.2.1.symm) c9)
  refine W.widen (k := cl + 740) (n := sl + 3700) (by omega) (by omega) ?_
  exact K _ _ _ ⟨_, _, _, _, _, _, _, _, _, _, _, _, _, _, _, _, _, hR, hPd, hPo, hPm, hPg⟩ hS (lv_sub hl [0, 1, 2, 3, 4, 5] rfl)
