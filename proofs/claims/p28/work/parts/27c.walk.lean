set_option maxHeartbeats 4000000 in
set_option maxRecDepth 100000 in
/-- a bulletin, or none -/
theorem lw_pub {p : Program} {e : Env} {s : State} {m : MethodId} {below : List Frame} {meth : Method} {c : Code} (l : Launch) (hlt : l.stackTraces = false) {b L : Nat} {xs : Nat → Int32} (hL : L ≤ 260) (C0 : lw_At p s m meth c b L xs) {E : ev_T} {ad : Nat → Nat} (hE : ev_U E s) (hU9 : ex_U (fun q : Nat => s.heap.size ≤ q) s s.heap) (hDD : ∀ S zs rn dy bn cn tn, va_D (fun q : Nat => s.heap.size ≤ q) (dC E ad S zs rn dy bn cn tn)) {S : Nat → Nat → Int32} {zs : Nat → Nat} {rn dy bn cn tn : Nat} {t4 t5 t7 : Int32} (hST : ST S zs rn dy) (hFK : FK (S 18) zs rn t4 t5) (h18 : dy < 18) (h0 : zs dy = 0) {cl sl : Nat} (hcl : cl + 8 ≤ 600086) (hsl : sl + 48 ≤ 7301442)
    (K : ∀ (S : Nat → Nat → Int32) (zs : Nat → Nat) (bn : Nat) (t4 t5 : Int32) (H : Heap) (locs : List Loc) (ls : Array Slot), ST S zs rn dy → FK (S 18) zs rn t4 t5 → va_P E.1 vwCl (dC E ad S zs rn dy bn cn tn) H → va_S (fun q : Nat => s.heap.size ≤ q) s.heap H locs → lv_has ls 17 [(0, .ref b), (1, .ref (ad 0)), (2, .int (nI rn)), (3, .int (nI (SZ zs (dy + 1)))), (4, .int t4), (5, .int t5), (6, .int (nI dy))] → W p l e room_1 s m #[Value.ref b] below meth c H locs (cl + 8) (sl + 48) (lw_Z below #[Value.ref b] s) (F0 m 561 ls [])) {H : Heap} {locs : List Loc} {ls : Array Slot} (hP : va_P E.1 vwCl (dC E ad S zs rn dy bn cn tn) H) (hS : va_S (fun q : Nat => s.heap.size ≤ q) s.heap H locs) (hl : lv_has ls 17 [(0, .ref b), (1, .ref (ad 0)), (2, .int (nI rn)), (3, .int (nI (SZ zs dy))), (4, .int t4), (5, .int t5), (6, .int (nI dy)), (7, .int t7)]) : W p l e room_1 s m #[Value.ref b] below meth c H locs cl sl (lw_Z below #[Value.ref b] s) (F0 m 470 ls []) := by
  obtain ⟨hx, hb, hr, hml, hown, hts0, hX, hbl, hlocks, hgv⟩ := id C0
  have hts : ∀ w ∈ wsL_law, w.before #[Value.ref b] s = true := fun w h => hts0 w (wsL_law_in w h)
  have hown : s.vm.findClass RL = some m.cls := hown
  have hA : ∀ q : Nat, s.heap.size ≤ q → (fun q : Nat => s.heap.size ≤ q) q := fun _ h => h
  have hbA : ¬ (fun q : Nat => s.heap.size ≤ q) b := Nat.not_le.mpr hbl
  have kc59 := hts0 (.constant RL 59 (100000)) (by decide +kernel)
  have ml_51 := hts0 (.methodLink RL 51 Lib.Math.max.name) (by decide +kernel)
  have ms_max := hts0 (.static Lib.Math.max.name) (by decide +kernel)
  have mi := hts0 (.initialized "java/lang/Math") (by decide +kernel)
  have mc_max := hts0 (.code Lib.Math.max.name Lib.Math.max.code 2 (some .int)) (by decide +kernel)
  have hrn4 := hST.1
  have hz := hST.hz6
  refine lv_iload hx hb dL_law_470 (lv_at hl 7 rfl) ?_
  refine lv_iconst (v := 2) hx hb dL_law_472 (by decide) ?_
  refine lv_ishr hx hb dL_law_473 ?_
  refine lv_iconst (v := 2) hx hb dL_law_474 (by decide) ?_
  refine va_calli (va_runS (As := [.int (t7 >>> (2 &&& 31)), .int 2]) (rest := []) ⟨hx, hb, hml, hown, hts⟩ (kL_below l E (t7 >>> (2 &&& 31)) 2 (by first | omega | assumption | (intro k h; have := hz k h; omega)) (by first | omega | assumption | (intro k h; have := hz k h; omega))) (va_cwS 2 hts gL_law_L_below rfl rfl rfl (by decide +kernel) ⟨Nat.le_of_ble_eq_true rfl, Nat.le_of_ble_eq_true rfl⟩) ⟨fb_0, fun U hU hW => ⟨rfl, trivial⟩⟩ rfl rfl hl.1 rfl (lv_room (Nat.le_of_ble_eq_true rfl)) dL_law_475 ⟨by show _ ≤ 600086; omega, by show _ ≤ 7301442; omega⟩) hS (fun q _ h => h.elim) (fun q h => h.elim) (fun r475_0 u t H1 locs ht hvm hw hB hz1 hk1 hS => ?_)
  have hP := hP.ro hk1
  generalize H1 = H at hP hS ⊢
  subst hw
  have hb9_475 := bl_lt (t7 >>> (2 &&& 31)) (n := 2) (by decide)
  refine mz_ifneN hx hb (bl (t7 >>> (2 &&& 31)) 2) (tgt := 561) dL_law_478 (by decide) (by omega) (fun c_478 => ?_) (fun c_478 => ?_)
  · refine W.widen (k := cl + 8) (n := sl + 48) (by omega) (by omega) ?_
    have hl : lv_has ls 17 [(0, .ref b), (1, .ref (ad 0)), (2, .int (nI rn)), (3, .int (nI (SZ zs (dy + 1)))), (4, .int t4), (5, .int t5), (6, .int (nI dy)), (7, .int t7)] := by rw [hST.next h0]; exact hl
    exact K _ _ _ _ _ _ _ _ hST hFK hP hS (lv_sub hl [0, 1, 2, 3, 4, 5, 6] rfl)
  · refine lv_iconst (v := 0) hx hb dL_law_481 (by decide) ?_
    refine lv_istore (lv' := [(8, .int 0), (0, .ref b), (1, .ref (ad 0)), (2, .int (nI rn)), (3, .int (nI (SZ zs dy))), (4, .int t4), (5, .int t5), (6, .int (nI dy)), (7, .int t7)]) hx hb dL_law_482 hl (by decide) rfl (fun ls hl => ?_)
    refine lv_iconst (v := 0) hx hb dL_law_484 (by decide) ?_
    refine lv_istore (lv' := [(9, .int 0), (8, .int 0), (0, .ref b), (1, .ref (ad 0)), (2, .int (nI rn)), (3, .int (nI (SZ zs dy))), (4, .int t4), (5, .int t5), (6, .int (nI dy)), (7, .int t7)]) hx hb dL_law_485 hl (by decide) rfl (fun ls hl => ?_)
    have KL487 : ∀ (n487 ir : Nat), ir ≤ rn → rn < n487 + ir → ∀ (H : Heap) (locs : List Loc) (ls : Array Slot), va_P E.1 vwCl (dC E ad S zs rn dy bn cn tn) H → va_S (fun q : Nat => s.heap.size ≤ q) s.heap H locs → lv_has ls 17 [(9, .int (nI ir)), (8, .int (pgD S ir)), (0, .ref b), (1, .ref (ad 0)), (2, .int (nI rn)), (3, .int (nI (SZ zs dy))), (4, .int t4), (5, .int t5), (6, .int (nI dy)), (7, .int t7)] → W p l e room_1 s m #[Value.ref b] below meth c H locs (cl + ir) (sl + 6 * ir) (lw_Z below #[Value.ref b] s) (F0 m 487 ls []) := by
      intro n487
      induction n487 with
      | zero => intro ir h1 h2; exact absurd h2 (by omega)
      | succ n487 ih487 =>
        intro ir hi487 hn487 H locs ls hP hS hl
        refine lv_iload hx hb dL_law_487 (lv_at hl 0 rfl) ?_
        refine lv_iload_n hx hb dL_law_489 rfl (lv_at hl 4 rfl) ?_
        refine mz_geN hx hb ir rn (tgt := 512) dL_law_490 (by decide) (by omega) (by omega) (fun c_490 => ?_) (fun c_490 => ?_)
        · have hq99 : ir = rn := by omega
          subst ir
          refine lv_aload_n hx hb dL_law_512 rfl (lv_at hl 3 rfl) ?_
          have hDc := hDD S zs rn dy bn cn tn
          have hFc := fr_free hDc hS hA
          refine va_calli (va_runV (As := []) (rest := []) ⟨hx, hb, hml, hown, hts⟩ (n_publish l hlt E ad S zs rn dy bn cn tn H.size (by first | omega | assumption) (by first | omega | assumption) (hz) (h0) (by first | omega | assumption)) (cwV 0 hts gL_law_X4_publish rfl rfl rfl (by decide +kernel) ⟨Nat.le_of_ble_eq_true rfl, Nat.le_of_ble_eq_true rfl⟩) ⟨fb_Y, va_recv hE.1 hP (ci := 4) (q0 := 0) rfl rfl, fun U hU hW => ⟨rfl, by rw [hU], by rw [hU]; exact hP, hDc.weaken (fun _ _ _ _ => trivial), hE.warm hW, hU9.to hS hFc hU hW⟩⟩ rfl rfl hl.1 rfl (lv_room (Nat.le_of_ble_eq_true rfl)) dL_law_513 ⟨by show _ ≤ 600086; omega, by show _ ≤ 7301442; omega⟩) hS (fun q _ h => hFc q h) hFc (fun r513 u t H1 locs ht hvm hw hB hz1 hk1 hS => ?_)
          rw [ht] at hB
          have hP : va_P E.1 vwCl (dC E ad (va_up S 18 (pbD S dy rn)) (va_up zs dy rn) rn dy (bn + 1) cn tn) H1 := hB
          clear hDc hFc
          generalize H1 = H at hP hS ⊢
          subst hw
          refine lv_iload hx hb dL_law_516 (lv_at hl 1 rfl) ?_
          refine lv_icmp_eq (tgt := 523) hx hb dL_law_518 (by decide) (fun c_518 => ?_) (fun c_518 => ?_)
          · refine lv_iload_n hx hb dL_law_523 rfl (lv_at hl 5 rfl) ?_
            refine lv_iload_n hx hb dL_law_524 rfl (lv_at hl 4 rfl) ?_
            refine mz_addN hx hb (SZ zs dy) rn dL_law_525 ?_
            refine lv_istore_n (lv' := [(3, .int (nI ((SZ zs dy) + rn))), (9, .int (nI rn)), (8, .int (pgD S rn)), (0, .ref b), (1, .ref (ad 0)), (2, .int (nI rn)), (4, .int t4), (5, .int t5), (6, .int (nI dy)), (7, .int t7)]) hx hb dL_law_526 rfl hl (by decide) rfl (fun ls hl => ?_)
            refine lv_iload hx hb dL_law_527 (lv_at hl 6 rfl) ?_
            refine mz_ifge (tgt := 561) hx hb dL_law_529 (by decide) (fun c_529 => ?_) (fun c_529 => ?_)
            · refine W.widen (k := cl + 8) (n := sl + 48) (by omega) (by omega) ?_
              have hl : lv_has ls 17 [(3, .int (nI (SZ (va_up zs dy rn) (dy + 1)))), (9, .int (nI rn)), (8, .int (pgD S rn)), (0, .ref b), (1, .ref (ad 0)), (2, .int (nI rn)), (4, .int t4), (5, .int t5), (6, .int (nI dy)), (7, .int t7)] := by rw [SZ_pub]; exact hl
              have hST9 : ST (va_up S 18 (pbD S dy rn)) (va_up zs dy rn) rn dy := hST.publish (by omega)
              have hFK9 : FK ((va_up S 18 (pbD S dy rn)) 18) (va_up zs dy rn) rn t4 t5 := by rw [va_up_self]; exact hFK.publish h0 (by omega) (by omega)
              exact K _ _ _ _ _ _ _ _ hST9 hFK9 hP hS (lv_sub hl [3, 4, 5, 0, 6, 7, 8] rfl)
            · refine lv_iload hx hb dL_law_532 (lv_at hl 8 rfl) ?_
              refine lv_istore (lv' := [(4, .int (nI dy)), (3, .int (nI ((SZ zs dy) + rn))), (9, .int (nI rn)), (8, .int (pgD S rn)), (0, .ref b), (1, .ref (ad 0)), (2, .int (nI rn)), (5, .int t5), (6, .int (nI dy)), (7, .int t7)]) hx hb dL_law_534 hl (by decide) rfl (fun ls hl => ?_)
              refine lv_ldc hx hb hown kc59 dL_law_536 ?_
              refine lv_aload_n hx hb dL_law_538 rfl (lv_at hl 5 rfl) ?_
              refine lv_iconst (v := 0) hx hb dL_law_539 (by decide) ?_
              refine va_calli (va_runV (As := [.int 0]) (rest := [.int 100000]) ⟨hx, hb, hml, hown, hts⟩ (n_level l hlt E ad (va_up S 18 (pbD S dy rn)) (va_up zs dy rn) rn dy (bn + 1) cn tn 0 (by first | omega | assumption) (by first | omega | assumption) (by first | omega | assumption)) (cwV 1 hts gL_law_X4_level rfl rfl rfl (by decide +kernel) ⟨Nat.le_of_ble_eq_true rfl, Nat.le_of_ble_eq_true rfl⟩) ⟨fb_X, va_recv hE.1 hP (ci := 4) (q0 := 0) rfl rfl, fun U hU hW => ⟨rfl, by rw [hU]; exact hP, hE.warm hW, hU9.to hS (fun _ h => h.elim) hU hW⟩⟩ rfl rfl hl.1 rfl (lv_room (Nat.le_of_ble_eq_true rfl)) dL_law_540 ⟨by show _ ≤ 600086; omega, by show _ ≤ 7301442; omega⟩) hS (fun q _ h => h.elim) (fun q h => h.elim) (fun r540 u t H1 locs ht hvm hw hB hz1 hk1 hS => ?_)
              have hP := hP.ro hk1
              generalize H1 = H at hP hS ⊢
              subst hw
              refine lv_imul hx hb dL_law_543 ?_
              refine lv_bipush (v := 10) hx hb dL_law_544 (by decide) ?_
              refine lv_aload_n hx hb dL_law_546 rfl (lv_at hl 5 rfl) ?_
              refine lv_iconst (v := 0) hx hb dL_law_547 (by decide) ?_
              refine va_calli (va_runV (As := [.int 0]) (rest := [.int 10, .int (100000 * (levA ((va_up S 18 (pbD S dy rn)) (3 + 2 * 0))))]) ⟨hx, hb, hml, hown, hts⟩ (n_core l hlt E ad (va_up S 18 (pbD S dy rn)) (va_up zs dy rn) rn dy (bn + 1) cn tn 0 (by first | omega | assumption) (by first | omega | assumption) (by first | omega | assumption)) (cwV 1 hts gL_law_X4_core rfl rfl rfl (by decide +kernel) ⟨Nat.le_of_ble_eq_true rfl, Nat.le_of_ble_eq_true rfl⟩) ⟨fb_X, va_recv hE.1 hP (ci := 4) (q0 := 0) rfl rfl, fun U hU hW => ⟨rfl, by rw [hU]; exact hP, hE.warm hW, hU9.to hS (fun _ h => h.elim) hU hW⟩⟩ rfl rfl hl.1 rfl (lv_room (Nat.le_of_ble_eq_true rfl)) dL_law_548 ⟨by show _ ≤ 600086; omega, by show _ ≤ 7301442; omega⟩) hS (fun q _ h => h.elim) (fun q h => h.elim) (fun r548 u t H1 locs ht hvm hw hB hz1 hk1 hS => ?_)
              have hP := hP.ro hk1
              generalize H1 = H at hP hS ⊢
              subst hw
              refine lv_imul hx hb dL_law_551 ?_
              refine lv_iadd hx hb dL_law_552 ?_
              refine lv_aload_n hx hb dL_law_553 rfl (lv_at hl 5 rfl) ?_
              refine lv_iconst (v := 0) hx hb dL_law_554 (by decide) ?_
              refine va_calli (va_runV (As := [.int 0]) (rest := [.int ((100000 * (levA ((va_up S 18 (pbD S dy rn)) (3 + 2 * 0)))) + (10 * (crA ((va_up S 18 (pbD S dy rn)) (3 + 2 * 0)) (levA ((va_up S 18 (pbD S dy rn)) (3 + 2 * 0))) 12)))]) ⟨hx, hb, hml, hown, hts⟩ (n_mainProblem l hlt E ad (va_up S 18 (pbD S dy rn)) (va_up zs dy rn) rn dy (bn + 1) cn tn 0 (by first | omega | assumption) (by first | omega | assumption) (by first | omega | assumption)) (cwV 1 hts gL_law_X4_mainProblem rfl rfl rfl (by decide +kernel) ⟨Nat.le_of_ble_eq_true rfl, Nat.le_of_ble_eq_true rfl⟩) ⟨fb_X, va_recv hE.1 hP (ci := 4) (q0 := 0) rfl rfl, fun U hU hW => ⟨rfl, by rw [hU]; exact hP, hE.warm hW, hU9.to hS (fun _ h => h.elim) hU hW⟩⟩ rfl rfl hl.1 rfl (lv_room (Nat.le_of_ble_eq_true rfl)) dL_law_555 ⟨by show _ ≤ 600086; omega, by show _ ≤ 7301442; omega⟩) hS (fun q _ h => h.elim) (fun q h => h.elim) (fun r555 u t H1 locs ht hvm hw hB hz1 hk1 hS => ?_)
              have hP := hP.ro hk1
              generalize H1 = H at hP hS ⊢
              subst hw
              refine lv_iadd hx hb dL_law_558 ?_
              refine lv_istore (lv' := [(5, .int (((100000 * (levA ((va_up S 18 (pbD S dy rn)) (3 + 2 * 0)))) + (10 * (crA ((va_up S 18 (pbD S dy rn)) (3 + 2 * 0)) (levA ((va_up S 18 (pbD S dy rn)) (3 + 2 * 0))) 12))) + ((fpA ((va_up S 18 (pbD S dy rn)) (3 + 2 * 0)) (crA ((va_up S 18 (pbD S dy rn)) (3 + 2 * 0)) (levA ((va_up S 18 (pbD S dy rn)) (3 + 2 * 0))) 12) 4).1))), (4, .int (nI dy)), (3, .int (nI ((SZ zs dy) + rn))), (9, .int (nI rn)), (8, .int (pgD S rn)), (0, .ref b), (1, .ref (ad 0)), (2, .int (nI rn)), (6, .int (nI dy)), (7, .int t7)]) hx hb dL_law_559 hl (by decide) rfl (fun ls hl => ?_)
              refine W.widen (k := cl + 8) (n := sl + 48) (by omega) (by omega) ?_
              have hl : lv_has ls 17 [(5, .int (((100000 * (levA ((va_up S 18 (pbD S dy rn)) (3 + 2 * 0)))) + (10 * (crA ((va_up S 18 (pbD S dy rn)) (3 + 2 * 0)) (levA ((va_up S 18 (pbD S dy rn)) (3 + 2 * 0))) 12))) + ((fpA ((va_up S 18 (pbD S dy rn)) (3 + 2 * 0)) (crA ((va_up S 18 (pbD S dy rn)) (3 + 2 * 0)) (levA ((va_up S 18 (pbD S dy rn)) (3 + 2 * 0))) 12) 4).1))), (4, .int (nI dy)), (3, .int (nI (SZ (va_up zs dy rn) (dy + 1)))), (9, .int (nI rn)), (8, .int (pgD S rn)), (0, .ref b), (1, .ref (ad 0)), (2, .int (nI rn)), (6, .int (nI dy)), (7, .int t7)] := by rw [SZ_pub]; exact hl
              have hST9 : ST (va_up S 18 (pbD S dy rn)) (va_up zs dy rn) rn dy := hST.publish (by omega)
              have e3 : (va_up S 18 (pbD S dy rn)) (3 + 2 * 0) = S (3 + 2 * 0) := va_up_ne _ _ (by decide)
              rw [e3] at hl
              have hFK9 : FK ((va_up S 18 (pbD S dy rn)) 18) (va_up zs dy rn) rn (nI dy) (100000 * levA (S (3 + 2 * 0)) + 10 * corD (S (3 + 2 * 0)) + manD (S (3 + 2 * 0))) := by rw [va_up_self]; exact FK.first (by omega) (by omega) (by omega)
              exact K _ _ _ _ _ _ _ _ hST9 hFK9 hP hS (lv_sub hl [5, 6, 7, 2, 1, 0, 8] rfl)
          · exact absurd rfl c_518
        · refine lv_iload hx hb dL_law_493 (lv_at hl 1 rfl) ?_
          refine lv_aload_n hx hb dL_law_495 rfl (lv_at hl 3 rfl) ?_
          refine lv_iload hx hb dL_law_496 (lv_at hl 0 rfl) ?_
          refine va_calli (va_runV (As := [.int (nI ir)]) (rest := [.int (pgD S ir)]) ⟨hx, hb, hml, hown, hts⟩ (n_level l hlt E ad S zs rn dy bn cn tn ir (by first | omega | assumption) (by first | omega | assumption) (by first | omega | assumption)) (cwV 1 hts gL_law_X4_level rfl rfl rfl (by decide +kernel) ⟨Nat.le_of_ble_eq_true rfl, Nat.le_of_ble_eq_true rfl⟩) ⟨fb_X, va_recv hE.1 hP (ci := 4) (q0 := 0) rfl rfl, fun U hU hW => ⟨rfl, by rw [hU]; exact hP, hE.warm hW, hU9.to hS (fun _ h => h.elim) hU hW⟩⟩ rfl rfl hl.1 rfl (lv_room (Nat.le_of_ble_eq_true rfl)) dL_law_498 ⟨by show _ ≤ 600086; omega, by show _ ≤ 7301442; omega⟩) hS (fun q _ h => h.elim) (fun q h => h.elim) (fun r498 u t H1 locs ht hvm hw hB hz1 hk1 hS => ?_)
          have hP := hP.ro hk1
          generalize H1 = H at hP hS ⊢
          subst hw
          refine mz_max hx hb (hml.trans hl.1.symm) hown ml_51 ms_max mi mc_max (Nat.le_of_ble_eq_true rfl) (Nat.le_of_ble_eq_true rfl) (by show _ ≤ 600086; omega) (by show _ ≤ 7301442; omega) dL_law_501 ?_
          refine lv_istore (lv' := [(8, .int (mx (pgD S ir) (levA (S (3 + 2 * ir))))), (9, .int (nI ir)), (0, .ref b), (1, .ref (ad 0)), (2, .int (nI rn)), (3, .int (nI (SZ zs dy))), (4, .int t4), (5, .int t5), (6, .int (nI dy)), (7, .int t7)]) hx hb dL_law_504 hl (by decide) rfl (fun ls hl => ?_)
          refine mz_iinc (k := 1) (lv' := [(9, .int (nI (ir + 1))), (8, .int (mx (pgD S ir) (levA (S (3 + 2 * ir))))), (0, .ref b), (1, .ref (ad 0)), (2, .int (nI rn)), (3, .int (nI (SZ zs dy))), (4, .int t4), (5, .int t5), (6, .int (nI dy)), (7, .int t7)]) hx hb ir 1 dL_law_506 hl rfl (by decide) rfl (fun ls hl => ?_)
          refine lv_goto (tgt := 487) hx hb dL_law_509 (by decide) ?_
          refine W.widen (k := cl + (ir + 1)) (n := sl + 6 * (ir + 1)) (by omega) (by omega) ?_
          exact ih487 (ir + 1) (by omega) (by omega) _ _ _ hP hS (lv_sub hl [0, 1, 2, 3, 4, 5, 6, 7, 8, 9] rfl)
    refine W.widen (k := cl + 0) (n := sl + 6 * 0) (by omega) (by omega) ?_
    exact KL487 (rn + 1 - 0) 0 (by omega) (by omega) _ _ _ hP hS (lv_sub hl [0, 1, 2, 3, 4, 5, 6, 7, 8, 9] rfl)
set_option maxHeartbeats 4000000 in
set_option maxRecDepth 100000 in
/-- borne out, and the first bulletin once more -/
theorem lw_chk {p : Program} {e : Env} {s : State} {m : MethodId} {below : List Frame} {meth : Method} {c : Code} (l : Launch) (hlt : l.stackTraces = false) {b L : Nat} {xs : Nat → Int32} (hL : L ≤ 260) (C0 : lw_At p s m meth c b L xs) {E : ev_T} {ad : Nat → Nat} (hE : ev_U E s) (hU9 : ex_U (fun q : Nat => s.heap.size ≤ q) s s.heap) (hDD : ∀ S zs rn dy bn cn tn, va_D (fun q : Nat => s.heap.size ≤ q) (dC E ad S zs rn dy bn cn tn)) {S : Nat → Nat → Int32} {zs : Nat → Nat} {rn dy bn cn tn : Nat} {t4 t5 : Int32} (hST : ST S zs rn dy) (hFK : FK (S 18) zs rn t4 t5) (h18 : dy < 18) {cl sl : Nat} (hcl : cl + 6 ≤ 600086) (hsl : sl + 36 ≤ 7301442)
    (K : ∀ (H : Heap) (locs : List Loc) (ls : Array Slot), va_P E.1 vwCl (dC E ad S zs rn dy bn cn tn) H → va_S (fun q : Nat => s.heap.size ≤ q) s.heap H locs → lv_has ls 17 [(0, .ref b), (1, .ref (ad 0)), (2, .int (nI rn)), (3, .int (nI (SZ zs (dy + 1)))), (4, .int t4), (5, .int t5), (6, .int (nI dy))] → W p l e room_1 s m #[Value.ref b] below meth c H locs (cl + 6) (sl + 36) (lw_Z below #[Value.ref b] s) (F0 m 628 ls [])) {H : Heap} {locs : List Loc} {ls : Array Slot} (hP : va_P E.1 vwCl (dC E ad S zs rn dy bn cn tn) H) (hS : va_S (fun q : Nat => s.heap.size ≤ q) s.heap H locs) (hl : lv_has ls 17 [(0, .ref b), (1, .ref (ad 0)), (2, .int (nI rn)), (3, .int (nI (SZ zs (dy + 1)))), (4, .int t4), (5, .int t5), (6, .int (nI dy))]) : W p l e room_1 s m #[Value.ref b] below meth c H locs cl sl (lw_Z below #[Value.ref b] s) (F0 m 561 ls []) := by
  obtain ⟨hx, hb, hr, hml, hown, hts0, hX, hbl, hlocks, hgv⟩ := id C0
  have hts : ∀ w ∈ wsL_law, w.before #[Value.ref b] s = true := fun w h => hts0 w (wsL_law_in w h)
  have hown : s.vm.findClass RL = some m.cls := hown
  have hA : ∀ q : Nat, s.heap.size ≤ q → (fun q : Nat => s.heap.size ≤ q) q := fun _ h => h
  have hbA : ¬ (fun q : Nat => s.heap.size ≤ q) b := Nat.not_le.mpr hbl
  have kc59 := hts0 (.constant RL 59 (100000)) (by decide +kernel)
  have hrn4 := hST.1
  have hz := hST.hz6
  have hlv := hST.2.2.2.2.2
  refine lv_aload_n hx hb dL_law_561 rfl (lv_at hl 1 rfl) ?_
  refine lv_iconst (v := (-1)) hx hb dL_law_562 (by decide) ?_
  refine va_calli (va_runV (As := [.int (-1)]) (rest := []) ⟨hx, hb, hml, hown, hts⟩ (n_borneOut l hlt E ad S zs rn dy bn cn tn (-1) (by first | omega | assumption) (by first | omega | assumption) (hz) (hlv) (by decide)) (cwV 1 hts gL_law_X4_borneOut rfl rfl rfl (by decide +kernel) ⟨Nat.le_of_ble_eq_true rfl, Nat.le_of_ble_eq_true rfl⟩) ⟨fb_X, va_recv hE.1 hP (ci := 4) (q0 := 0) rfl rfl, fun U hU hW => ⟨rfl, by rw [hU]; exact hP, hE.warm hW, hU9.to hS (fun _ h => h.elim) hU hW⟩⟩ rfl rfl hl.1 rfl (lv_room (Nat.le_of_ble_eq_true rfl)) dL_law_563 ⟨by show _ ≤ 600086; omega, by show _ ≤ 7301442; omega⟩) hS (fun q _ h => h.elim) (fun q h => h.elim) (fun r563 u t H1 locs ht hvm hw hB hz1 hk1 hS => ?_)
  have hP := hP.ro hk1
  generalize H1 = H at hP hS ⊢
  subst hw
  refine lv_aload_n hx hb dL_law_566 rfl (lv_at hl 1 rfl) ?_
  refine lv_iconst (v := 0) hx hb dL_law_567 (by decide) ?_
  refine va_calli (va_runV (As := [.int 0]) (rest := [.int (bcD S zs rn (-1) (dy + 1))]) ⟨hx, hb, hml, hown, hts⟩ (n_borneOut l hlt E ad S zs rn dy bn cn tn 0 (by first | omega | assumption) (by first | omega | assumption) (hz) (hlv) (by decide)) (cwV 1 hts gL_law_X4_borneOut rfl rfl rfl (by decide +kernel) ⟨Nat.le_of_ble_eq_true rfl, Nat.le_of_ble_eq_true rfl⟩) ⟨fb_X, va_recv hE.1 hP (ci := 4) (q0 := 0) rfl rfl, fun U hU hW => ⟨rfl, by rw [hU]; exact hP, hE.warm hW, hU9.to hS (fun _ h => h.elim) hU hW⟩⟩ rfl rfl hl.1 rfl (lv_room (Nat.le_of_ble_eq_true rfl)) dL_law_568 ⟨by show _ ≤ 600086; omega, by show _ ≤ 7301442; omega⟩) hS (fun q _ h => h.elim) (fun q h => h.elim) (fun r568 u t H1 locs ht hvm hw hB hz1 hk1 hS => ?_)
  have hP := hP.ro hk1
  generalize H1 = H at hP hS ⊢
  subst hw
  refine lv_iadd hx hb dL_law_571 ?_
  refine lv_aload_n hx hb dL_law_572 rfl (lv_at hl 1 rfl) ?_
  refine lv_iconst (v := 1) hx hb dL_law_573 (by decide) ?_
  refine va_calli (va_runV (As := [.int 1]) (rest := [.int ((bcD S zs rn (-1) (dy + 1)) + (bcD S zs rn 0 (dy + 1)))]) ⟨hx, hb, hml, hown, hts⟩ (n_borneOut l hlt E ad S zs rn dy bn cn tn 1 (by first | omega | assumption) (by first | omega | assumption) (hz) (hlv) (by decide)) (cwV 1 hts gL_law_X4_borneOut rfl rfl rfl (by decide +kernel) ⟨Nat.le_of_ble_eq_true rfl, Nat.le_of_ble_eq_true rfl⟩) ⟨fb_X, va_recv hE.1 hP (ci := 4) (q0 := 0) rfl rfl, fun U hU hW => ⟨rfl, by rw [hU]; exact hP, hE.warm hW, hU9.to hS (fun _ h => h.elim) hU hW⟩⟩ rfl rfl hl.1 rfl (lv_room (Nat.le_of_ble_eq_true rfl)) dL_law_574 ⟨by show _ ≤ 600086; omega, by show _ ≤ 7301442; omega⟩) hS (fun q _ h => h.elim) (fun q h => h.elim) (fun r574 u t H1 locs ht hvm hw hB hz1 hk1 hS => ?_)
  have hP := hP.ro hk1
  generalize H1 = H at hP hS ⊢
  subst hw
  refine lv_iadd hx hb dL_law_577 ?_
  refine lv_iload_n hx hb dL_law_578 rfl (lv_at hl 3 rfl) ?_
  refine lv_icmp_eq (tgt := 584) hx hb dL_law_579 (by decide) (fun c_579 => ?_) (fun c_579 => ?_)
  · refine lv_iload hx hb dL_law_584 (lv_at hl 4 rfl) ?_
    refine lv_if_lt (tgt := 628) hx hb dL_law_586 (by decide) (fun c_586 => ?_) (fun c_586 => ?_)
    · refine W.widen (k := cl + 6) (n := sl + 36) (by omega) (by omega) ?_
      exact K _ _ _ hP hS (lv_sub hl [0, 1, 2, 3, 4, 5, 6] rfl)
    · obtain ⟨d9, hd9, e4, ez, e5⟩ := hFK.resolve_left c_586
      subst e4
      refine lv_ldc hx hb hown kc59 dL_law_589 ?_
      refine lv_aload_n hx hb dL_law_591 rfl (lv_at hl 1 rfl) ?_
      refine lv_iload hx hb dL_law_592 (lv_at hl 4 rfl) ?_
      refine lv_iconst (v := 0) hx hb dL_law_594 (by decide) ?_
      refine lv_iconst (v := 0) hx hb dL_law_595 (by decide) ?_
      refine va_calli (va_runV (As := [.int (nI d9), .int 0, .int 0]) (rest := [.int 100000]) ⟨hx, hb, hml, hown, hts⟩ (n_bulletin l hlt E ad S zs rn dy bn cn tn d9 0 0 (by first | omega | assumption) (by first | omega | assumption) (hz) (hd9) (by rw [ez]; omega) (by first | omega | assumption) (by first | omega | assumption)) (cwV 3 hts gL_law_X4_bulletin rfl rfl rfl (by decide +kernel) ⟨Nat.le_of_ble_eq_true rfl, Nat.le_of_ble_eq_true rfl⟩) ⟨fb_X, va_recv hE.1 hP (ci := 4) (q0 := 0) rfl rfl, fun U hU hW => ⟨rfl, by rw [hU]; exact hP, hE.warm hW, hU9.to hS (fun _ h => h.elim) hU hW⟩⟩ rfl rfl hl.1 rfl (lv_room (Nat.le_of_ble_eq_true rfl)) dL_law_596 ⟨by show _ ≤ 600086; omega, by show _ ≤ 7301442; omega⟩) hS (fun q _ h => h.elim) (fun q h => h.elim) (fun r596 u t H1 locs ht hvm hw hB hz1 hk1 hS => ?_)
      have hP := hP.ro hk1
      generalize H1 = H at hP hS ⊢
      subst hw
      refine lv_imul hx hb dL_law_599 ?_
      refine lv_bipush (v := 10) hx hb dL_law_600 (by decide) ?_
      refine lv_aload_n hx hb dL_law_602 rfl (lv_at hl 1 rfl) ?_
      refine lv_iload hx hb dL_law_603 (lv_at hl 4 rfl) ?_
      refine lv_iconst (v := 0) hx hb dL_law_605 (by decide) ?_
      refine lv_iconst (v := 1) hx hb dL_law_606 (by decide) ?_
      refine va_calli (va_runV (As := [.int (nI d9), .int 0, .int 1]) (rest := [.int 10, .int (100000 * (S 18 ((d9 * 6 + 0) * 3 + 0)))]) ⟨hx, hb, hml, hown, hts⟩ (n_bulletin l hlt E ad S zs rn dy bn cn tn d9 0 1 (by first | omega | assumption) (by first | omega | assumption) (hz) (hd9) (by rw [ez]; omega) (by first | omega | assumption) (by first | omega | assumption)) (cwV 3 hts gL_law_X4_bulletin rfl rfl rfl (by decide +kernel) ⟨Nat.le_of_ble_eq_true rfl, Nat.le_of_ble_eq_true rfl⟩) ⟨fb_X, va_recv hE.1 hP (ci := 4) (q0 := 0) rfl rfl, fun U hU hW => ⟨rfl, by rw [hU]; exact hP, hE.warm hW, hU9.to hS (fun _ h => h.elim) hU hW⟩⟩ rfl rfl hl.1 rfl (lv_room (Nat.le_of_ble_eq_true rfl)) dL_law_607 ⟨by show _ ≤ 600086; omega, by show _ ≤ 7301442; omega⟩) hS (fun q _ h => h.elim) (fun q h => h.elim) (fun r607 u t H1 locs ht hvm hw hB hz1 hk1 hS => ?_)
      have hP := hP.ro hk1
      generalize H1 = H at hP hS ⊢
      subst hw
      refine lv_imul hx hb dL_law_610 ?_
      refine lv_iadd hx hb dL_law_611 ?_
      refine lv_aload_n hx hb dL_law_612 rfl (lv_at hl 1 rfl) ?_
      refine lv_iload hx hb dL_law_613 (lv_at hl 4 rfl) ?_
      refine lv_iconst (v := 0) hx hb dL_law_615 (by decide) ?_
      refine lv_iconst (v := 2) hx hb dL_law_616 (by decide) ?_
      refine va_calli (va_runV (As := [.int (nI d9), .int 0, .int 2]) (rest := [.int ((100000 * (S 18 ((d9 * 6 + 0) * 3 + 0))) + (10 * (S 18 ((d9 * 6 + 0) * 3 + 1))))]) ⟨hx, hb, hml, hown, hts⟩ (n_bulletin l hlt E ad S zs rn dy bn cn tn d9 0 2 (by first | omega | assumption) (by first | omega | assumption) (hz) (hd9) (by rw [ez]; omega) (by first | omega | assumption) (by first | omega | assumption)) (cwV 3 hts gL_law_X4_bulletin rfl rfl rfl (by decide +kernel) ⟨Nat.le_of_ble_eq_true rfl, Nat.le_of_ble_eq_true rfl⟩) ⟨fb_X, va_recv hE.1 hP (ci := 4) (q0 := 0) rfl rfl, fun U hU hW => ⟨rfl, by rw [hU]; exact hP, hE.warm hW, hU9.to hS (fun _ h => h.elim) hU hW⟩⟩ rfl rfl hl.1 rfl (lv_room (Nat.le_of_ble_eq_true rfl)) dL_law_617 ⟨by show _ ≤ 600086; omega, by show _ ≤ 7301442; omega⟩) hS (fun q _ h => h.elim) (fun q h => h.elim) (fun r617 u t H1 locs ht hvm hw hB hz1 hk1 hS => ?_)
      have hP := hP.ro hk1
      generalize H1 = H at hP hS ⊢
      subst hw
      refine lv_iadd hx hb dL_law_620 ?_
      refine lv_iload hx hb dL_law_621 (lv_at hl 5 rfl) ?_
      refine lv_icmp_eq (tgt := 628) hx hb dL_law_623 (by decide) (fun c_623 => ?_) (fun c_623 => ?_)
      · refine W.widen (k := cl + 6) (n := sl + 36) (by omega) (by omega) ?_
        exact K _ _ _ hP hS (lv_sub hl [0, 1, 2, 3, 4, 5, 6] rfl)
      · exact absurd e5.symm c_623
  · exact absurd (bc_all S zs rn (dy + 1) hST.hz) c_579
set_option maxHeartbeats 4000000 in
set_option maxRecDepth 100000 in
/-- the end of a day -/
theorem lw_end {p : Program} {e : Env} {s : State} {m : MethodId} {below : List Frame} {meth : Method} {c : Code} (l : Launch) (hlt : l.stackTraces = false) {b L : Nat} {xs : Nat → Int32} (hL : L ≤ 260) (C0 : lw_At p s m meth c b L xs) {E : ev_T} {ad : Nat → Nat} (hE : ev_U E s) (hU9 : ex_U (fun q : Nat => s.heap.size ≤ q) s s.heap) (hDD : ∀ S zs rn dy bn cn tn, va_D (fun q : Nat => s.heap.size ≤ q) (dC E ad S zs rn dy bn cn tn)) {S : Nat → Nat → Int32} {zs : Nat → Nat} {rn dy bn cn tn : Nat} {t3 t4 t5 : Int32} (hST : ST S zs rn dy) (hFK : FK (S 18) zs rn t4 t5) (h18 : dy < 18) {cl sl : Nat} (hcl : cl + 1 ≤ 600086) (hsl : sl + 6 ≤ 7301442)
    (K : ∀ (S : Nat → Nat → Int32) (H : Heap) (locs : List Loc) (ls : Array Slot), ST S zs rn (dy + 1) → FK (S 18) zs rn t4 t5 → va_P E.1 vwCl (dC E ad S zs rn (dy + 1) bn cn tn) H → va_S (fun q : Nat => s.heap.size ≤ q) s.heap H locs → lv_has ls 17 [(0, .ref b), (1, .ref (ad 0)), (2, .int (nI rn)), (3, .int t3), (4, .int t4), (5, .int t5), (6, .int (nI (dy + 1)))] → W p l e room_1 s m #[Value.ref b] below meth c H locs (cl + 1) (sl + 6) (lw_Z below #[Value.ref b] s) (F0 m 49 ls [])) {H : Heap} {locs : List Loc} {ls : Array Slot} (hP : va_P E.1 vwCl (dC E ad S zs rn dy bn cn tn) H) (hS : va_S (fun q : Nat => s.heap.size ≤ q) s.heap H locs) (hl : lv_has ls 17 [(0, .ref b), (1, .ref (ad 0)), (2, .int (nI rn)), (3, .int t3), (4, .int t4), (5, .int t5), (6, .int (nI dy))]) : W p l e room_1 s m #[Value.ref b] below meth c H locs cl sl (lw_Z below #[Value.ref b] s) (F0 m 628 ls []) := by
  obtain ⟨hx, hb, hr, hml, hown, hts0, hX, hbl, hlocks, hgv⟩ := id C0
  have hts : ∀ w ∈ wsL_law, w.before #[Value.ref b] s = true := fun w h => hts0 w (wsL_law_in w h)
  have hown : s.vm.findClass RL = some m.cls := hown
  have hA : ∀ q : Nat, s.heap.size ≤ q → (fun q : Nat => s.heap.size ≤ q) q := fun _ h => h
  have hbA : ¬ (fun q : Nat => s.heap.size ≤ q) b := Nat.not_le.mpr hbl
  have hrn4 := hST.1
  refine lv_aload_n hx hb dL_law_628 rfl (lv_at hl 1 rfl) ?_
  have hDc := hDD S zs rn dy bn cn tn
  have hFc := fr_free hDc hS hA
  refine va_calli (va_runV (As := []) (rest := []) ⟨hx, hb, hml, hown, hts⟩ (n_end l hlt E ad S zs rn dy bn cn tn H.size (by first | omega | assumption) (by first | omega | assumption) (by first | omega | assumption)) (cwV 0 hts gL_law_X4_end rfl rfl rfl (by decide +kernel) ⟨Nat.le_of_ble_eq_true rfl, Nat.le_of_ble_eq_true rfl⟩) ⟨fb_Y, va_recv hE.1 hP (ci := 4) (q0 := 0) rfl rfl, fun U hU hW => ⟨rfl, by rw [hU], by rw [hU]; exact hP, hDc.weaken (fun _ _ _ _ => trivial), hE.warm hW, hU9.to hS hFc hU hW⟩⟩ rfl rfl hl.1 rfl (lv_room (Nat.le_of_ble_eq_true rfl)) dL_law_629 ⟨by show _ ≤ 600086; omega, by show _ ≤ 7301442; omega⟩) hS (fun q _ h => hFc q h) hFc (fun r629 u t H1 locs ht hvm hw hB hz1 hk1 hS => ?_)
  rw [ht] at hB
  have hP : va_P E.1 vwCl (dC E ad (dES S rn) zs rn (dy + 1) bn cn tn) H1 := hB
  clear hDc hFc
  generalize H1 = H at hP hS ⊢
  refine lv_pop hx hb dL_law_632 rfl ?_
  refine mz_iinc (k := 6) (lv' := [(6, .int (nI (dy + 1))), (0, .ref b), (1, .ref (ad 0)), (2, .int (nI rn)), (3, .int t3), (4, .int t4), (5, .int t5)]) hx hb dy 1 dL_law_633 hl rfl (by decide) rfl (fun ls hl => ?_)
  refine lv_goto (tgt := 49) hx hb dL_law_636 (by decide) ?_
  refine W.widen (k := cl + 1) (n := sl + 6) (by omega) (by omega) ?_
  have hST9 := hST.end
  exact K _ _ _ _ hST9.1 (by rw [hST9.2]; exact hFK) hP hS (lv_sub hl [1, 2, 3, 4, 5, 6, 0] rfl)
