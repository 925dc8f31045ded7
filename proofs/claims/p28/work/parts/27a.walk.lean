set_option maxHeartbeats 4000000 in
set_option maxRecDepth 100000 in
/-- the checks of one region -/
theorem lw_sec {p : Program} {e : Env} {s : State} {m : MethodId} {below : List Frame} {meth : Method} {c : Code} (l : Launch) (hlt : l.stackTraces = false) {b L : Nat} {xs : Nat → Int32} (hL : L ≤ 260) (C0 : lw_At p s m meth c b L xs) {E : ev_T} {ad : Nat → Nat} (hE : ev_U E s) (hU9 : ex_U (fun q : Nat => s.heap.size ≤ q) s s.heap) (hDD : ∀ S zs rn dy bn cn tn, va_D (fun q : Nat => s.heap.size ≤ q) (dC E ad S zs rn dy bn cn tn)) {S : Nat → Nat → Int32} {zs : Nat → Nat} {rn dy bn cn tn : Nat} {r : Nat} {t3 t4 t5 t7 t9 : Int32} (h4 : rn ≤ 4) (h18 : dy < 18) (hrr : r < rn) (hN : okN (S (3 + 2 * r))) {cl sl : Nat} (hcl : cl + 602 ≤ 600086) (hsl : sl + 3612 ≤ 7301442)
    (K : ∀ (H : Heap) (locs : List Loc) (ls : Array Slot), va_P E.1 vwCl (dC E ad S zs rn dy bn cn tn) H → va_S (fun q : Nat => s.heap.size ≤ q) s.heap H locs → lv_has ls 17 [(0, .ref b), (1, .ref (ad 0)), (2, .int (nI rn)), (3, .int t3), (4, .int t4), (5, .int t5), (6, .int (nI dy)), (7, .int t7), (8, .int (nI r))] → W p l e room_1 s m #[Value.ref b] below meth c H locs (cl + 602) (sl + 3612) (lw_Z below #[Value.ref b] s) (F0 m 464 ls [])) {H : Heap} {locs : List Loc} {ls : Array Slot} (hP : va_P E.1 vwCl (dC E ad S zs rn dy bn cn tn) H) (hS : va_S (fun q : Nat => s.heap.size ≤ q) s.heap H locs) (hl : lv_has ls 17 [(0, .ref b), (1, .ref (ad 0)), (2, .int (nI rn)), (3, .int t3), (4, .int t4), (5, .int t5), (6, .int (nI dy)), (7, .int t7), (8, .int (nI r)), (9, .int t9)]) : W p l e room_1 s m #[Value.ref b] below meth c H locs cl sl (lw_Z below #[Value.ref b] s) (F0 m 210 ls []) := by
  obtain ⟨hx, hb, hr, hml, hown, hts0, hX, hbl, hlocks, hgv⟩ := id C0
  have hts : ∀ w ∈ wsL_law, w.before #[Value.ref b] s = true := fun w h => hts0 w (wsL_law_in w h)
  have hown : s.vm.findClass RL = some m.cls := hown
  have hA : ∀ q : Nat, s.heap.size ≤ q → (fun q : Nat => s.heap.size ≤ q) q := fun _ h => h
  have hbA : ¬ (fun q : Nat => s.heap.size ≤ q) b := Nat.not_le.mpr hbl
  have ml_51 := hts0 (.methodLink RL 51 Lib.Math.max.name) (by decide +kernel)
  have ms_max := hts0 (.static Lib.Math.max.name) (by decide +kernel)
  have mi := hts0 (.initialized "java/lang/Math") (by decide +kernel)
  have mc_max := hts0 (.code Lib.Math.max.name Lib.Math.max.code 2 (some .int)) (by decide +kernel)
  refine lv_aload_n hx hb dL_law_210 rfl (lv_at hl 1 rfl) ?_
  refine lv_iload hx hb dL_law_211 (lv_at hl 8 rfl) ?_
  refine va_calli (va_runV (As := [.int (nI r)]) (rest := []) ⟨hx, hb, hml, hown, hts⟩ (n_level l hlt E ad S zs rn dy bn cn tn r (by first | omega | assumption) (by first | omega | assumption) (by first | omega | assumption)) (cwV 1 hts gL_law_X4_level rfl rfl rfl (by decide +kernel) ⟨Nat.le_of_ble_eq_true rfl, Nat.le_of_ble_eq_true rfl⟩) ⟨fb_X, va_recv hE.1 hP (ci := 4) (q0 := 0) rfl rfl, fun U hU hW => ⟨rfl, by rw [hU]; exact hP, hE.warm hW, hU9.to hS (fun _ h => h.elim) hU hW⟩⟩ rfl rfl hl.1 rfl (lv_room (Nat.le_of_ble_eq_true rfl)) dL_law_213 ⟨by show _ ≤ 600086; omega, by show _ ≤ 7301442; omega⟩) hS (fun q _ h => h.elim) (fun q h => h.elim) (fun r213 u t H1 locs ht hvm hw hB hz1 hk1 hS => ?_)
  have hP := hP.ro hk1
  generalize H1 = H at hP hS ⊢
  subst hw
  refine lv_istore (lv' := [(10, .int (levA (S (3 + 2 * r)))), (0, .ref b), (1, .ref (ad 0)), (2, .int (nI rn)), (3, .int t3), (4, .int t4), (5, .int t5), (6, .int (nI dy)), (7, .int t7), (8, .int (nI r)), (9, .int t9)]) hx hb dL_law_216 hl (by decide) rfl (fun ls hl => ?_)
  refine lv_aload_n hx hb dL_law_218 rfl (lv_at hl 2 rfl) ?_
  refine lv_iload hx hb dL_law_219 (lv_at hl 9 rfl) ?_
  refine va_calli (va_runV (As := [.int (nI r)]) (rest := []) ⟨hx, hb, hml, hown, hts⟩ (n_core l hlt E ad S zs rn dy bn cn tn r (by first | omega | assumption) (by first | omega | assumption) (by first | omega | assumption)) (cwV 1 hts gL_law_X4_core rfl rfl rfl (by decide +kernel) ⟨Nat.le_of_ble_eq_true rfl, Nat.le_of_ble_eq_true rfl⟩) ⟨fb_X, va_recv hE.1 hP (ci := 4) (q0 := 0) rfl rfl, fun U hU hW => ⟨rfl, by rw [hU]; exact hP, hE.warm hW, hU9.to hS (fun _ h => h.elim) hU hW⟩⟩ rfl rfl hl.1 rfl (lv_room (Nat.le_of_ble_eq_true rfl)) dL_law_221 ⟨by show _ ≤ 600086; omega, by show _ ≤ 7301442; omega⟩) hS (fun q _ h => h.elim) (fun q h => h.elim) (fun r221 u t H1 locs ht hvm hw hB hz1 hk1 hS => ?_)
  have hP := hP.ro hk1
  generalize H1 = H at hP hS ⊢
  subst hw
  refine lv_istore (lv' := [(11, .int (crA (S (3 + 2 * r)) (levA (S (3 + 2 * r))) 12)), (10, .int (levA (S (3 + 2 * r)))), (0, .ref b), (1, .ref (ad 0)), (2, .int (nI rn)), (3, .int t3), (4, .int t4), (5, .int t5), (6, .int (nI dy)), (7, .int t7), (8, .int (nI r)), (9, .int t9)]) hx hb dL_law_224 hl (by decide) rfl (fun ls hl => ?_)
  refine lv_iconst (v := 0) hx hb dL_law_226 (by decide) ?_
  refine lv_istore (lv' := [(12, .int 0), (11, .int (crA (S (3 + 2 * r)) (levA (S (3 + 2 * r))) 12)), (10, .int (levA (S (3 + 2 * r)))), (0, .ref b), (1, .ref (ad 0)), (2, .int (nI rn)), (3, .int t3), (4, .int t4), (5, .int t5), (6, .int (nI dy)), (7, .int t7), (8, .int (nI r)), (9, .int t9)]) hx hb dL_law_227 hl (by decide) rfl (fun ls hl => ?_)
  refine lv_iconst (v := 0) hx hb dL_law_229 (by decide) ?_
  refine lv_istore (lv' := [(13, .int 0), (12, .int 0), (11, .int (crA (S (3 + 2 * r)) (levA (S (3 + 2 * r))) 12)), (10, .int (levA (S (3 + 2 * r)))), (0, .ref b), (1, .ref (ad 0)), (2, .int (nI rn)), (3, .int t3), (4, .int t4), (5, .int t5), (6, .int (nI dy)), (7, .int t7), (8, .int (nI r)), (9, .int t9)]) hx hb dL_law_230 hl (by decide) rfl (fun ls hl => ?_)
  have KL232 : ∀ (n232 is : Nat), is ≤ 12 → 12 < n232 + is → ∀ (H : Heap) (locs : List Loc) (ls : Array Slot), va_P E.1 vwCl (dC E ad S zs rn dy bn cn tn) H → va_S (fun q : Nat => s.heap.size ≤ q) s.heap H locs → lv_has ls 17 [(13, .int (nI is)), (12, .int (nI (cL (S (3 + 2 * r)) (levA (S (3 + 2 * r))) is))), (11, .int (crA (S (3 + 2 * r)) (levA (S (3 + 2 * r))) 12)), (10, .int (levA (S (3 + 2 * r)))), (0, .ref b), (1, .ref (ad 0)), (2, .int (nI rn)), (3, .int t3), (4, .int t4), (5, .int t5), (6, .int (nI dy)), (7, .int t7), (8, .int (nI r)), (9, .int t9)] → W p l e room_1 s m #[Value.ref b] below meth c H locs (cl + 2 + 50 * is) (sl + 12 + 300 * is) (lw_Z below #[Value.ref b] s) (F0 m 232 ls []) := by
    intro n232
    induction n232 with
    | zero => intro is h1 h2; exact absurd h2 (by omega)
    | succ n232 ih232 =>
      intro is hi232 hn232 H locs ls hP hS hl
      refine lv_iload hx hb dL_law_232 (lv_at hl 0 rfl) ?_
      refine lv_bipush (v := 12) hx hb dL_law_234 (by decide) ?_
      refine mz_geN hx hb is 12 (tgt := 444) dL_law_236 (by decide) (by omega) (by omega) (fun c_236 => ?_) (fun c_236 => ?_)
      · have hq99 : is = 12 := by omega
        subst is
        have hc2 := cL_two (S (3 + 2 * r))
        have hc1 := cL_le (S (3 + 2 * r)) (levA (S (3 + 2 * r))) 12
        refine lv_iload hx hb dL_law_444 (lv_at hl 1 rfl) ?_
        refine lv_iconst (v := 2) hx hb dL_law_446 (by decide) ?_
        refine mz_ltN hx hb (cL (S (3 + 2 * r)) (levA (S (3 + 2 * r))) 12) 2 (tgt := 462) dL_law_447 (by decide) (by omega) (by omega) (fun c_447 => ?_) (fun c_447 => ?_)
        · exact absurd c_447 (by omega)
        · refine lv_iload hx hb dL_law_450 (lv_at hl 3 rfl) ?_
          refine lv_iconst (v := 1) hx hb dL_law_452 (by decide) ?_
          refine mz_lt (tgt := 462) hx hb dL_law_453 (by decide) (fun c_453 => ?_) (fun c_453 => ?_)
          · exact absurd c_453 (lvD_ge _)
          · refine lv_iload hx hb dL_law_456 (lv_at hl 3 rfl) ?_
            refine lv_iconst (v := 5) hx hb dL_law_458 (by decide) ?_
            refine mz_le (tgt := 464) hx hb dL_law_459 (by decide) (fun c_459 => ?_) (fun c_459 => ?_)
            · refine W.widen (k := cl + 602) (n := sl + 3612) (by omega) (by omega) ?_
              exact K _ _ _ hP hS (lv_sub hl [4, 5, 6, 7, 8, 9, 10, 11, 12] rfl)
            · exact absurd c_459 (lvD_le5 _)
      · refine lv_iconst (v := 0) hx hb dL_law_239 (by decide) ?_
        refine lv_istore (lv' := [(14, .int 0), (13, .int (nI is)), (12, .int (nI (cL (S (3 + 2 * r)) (levA (S (3 + 2 * r))) is))), (11, .int (crA (S (3 + 2 * r)) (levA (S (3 + 2 * r))) 12)), (10, .int (levA (S (3 + 2 * r)))), (0, .ref b), (1, .ref (ad 0)), (2, .int (nI rn)), (3, .int t3), (4, .int t4), (5, .int t5), (6, .int (nI dy)), (7, .int t7), (8, .int (nI r)), (9, .int t9)]) hx hb dL_law_240 hl (by decide) rfl (fun ls hl => ?_)
        have KL242 : ∀ (n242 iw : Nat), iw ≤ 5 → 5 < n242 + iw → ∀ (H : Heap) (locs : List Loc) (ls : Array Slot), va_P E.1 vwCl (dC E ad S zs rn dy bn cn tn) H → va_S (fun q : Nat => s.heap.size ≤ q) s.heap H locs → lv_has ls 17 [(14, .int (nI iw)), (13, .int (nI is)), (12, .int (nI (cL (S (3 + 2 * r)) (levA (S (3 + 2 * r))) is))), (11, .int (crA (S (3 + 2 * r)) (levA (S (3 + 2 * r))) 12)), (10, .int (levA (S (3 + 2 * r)))), (0, .ref b), (1, .ref (ad 0)), (2, .int (nI rn)), (3, .int t3), (4, .int t4), (5, .int t5), (6, .int (nI dy)), (7, .int t7), (8, .int (nI r)), (9, .int t9)] → W p l e room_1 s m #[Value.ref b] below meth c H locs (cl + 2 + 50 * is + 6 * iw) (sl + 12 + 300 * is + 36 * iw) (lw_Z below #[Value.ref b] s) (F0 m 242 ls []) := by
          intro n242
          induction n242 with
          | zero => intro iw h1 h2; exact absurd h2 (by omega)
          | succ n242 ih242 =>
            intro iw hi242 hn242 H locs ls hP hS hl
            refine lv_iload hx hb dL_law_242 (lv_at hl 0 rfl) ?_
            refine lv_iconst (v := 5) hx hb dL_law_244 (by decide) ?_
            refine mz_geN hx hb iw 5 (tgt := 295) dL_law_245 (by decide) (by omega) (by omega) (fun c_245 => ?_) (fun c_245 => ?_)
            · have hq99 : iw = 5 := by omega
              subst iw
              refine lv_aload_n hx hb dL_law_295 rfl (lv_at hl 6 rfl) ?_
              refine lv_iload hx hb dL_law_296 (lv_at hl 13 rfl) ?_
              refine lv_iload hx hb dL_law_298 (lv_at hl 1 rfl) ?_
              refine lv_iconst (v := 1) hx hb dL_law_300 (by decide) ?_
              refine va_calli (va_runV (As := [.int (nI r), .int (nI is), .int 1]) (rest := []) ⟨hx, hb, hml, hown, hts⟩ (n_dangerL l hlt E ad S zs rn dy bn cn tn r is (by first | omega | assumption) (by first | omega | assumption) (by first | omega | assumption) (by first | omega | assumption)) (cwV 3 hts gL_law_X4_danger rfl rfl rfl (by decide +kernel) ⟨Nat.le_of_ble_eq_true rfl, Nat.le_of_ble_eq_true rfl⟩) ⟨fb_X, va_recv hE.1 hP (ci := 4) (q0 := 0) rfl rfl, fun U hU hW => ⟨rfl, by rw [hU]; exact hP, hE.warm hW, hU9.to hS (fun _ h => h.elim) hU hW⟩⟩ rfl rfl hl.1 rfl (lv_room (Nat.le_of_ble_eq_true rfl)) dL_law_301 ⟨by show _ ≤ 600086; omega, by show _ ≤ 7301442; omega⟩) hS (fun q _ h => h.elim) (fun q h => h.elim) (fun r301 u t H1 locs ht hvm hw hB hz1 hk1 hS => ?_)
              have hP := hP.ro hk1
              generalize H1 = H at hP hS ⊢
              subst hw
              refine lv_iload hx hb dL_law_304 (lv_at hl 4 rfl) ?_
              have KJ368 : ∀ (xc : Nat), xc = (cL (S (3 + 2 * r)) (levA (S (3 + 2 * r))) (is + 1)) → ∀ (H : Heap) (locs : List Loc) (ls : Array Slot), va_P E.1 vwCl (dC E ad S zs rn dy bn cn tn) H → va_S (fun q : Nat => s.heap.size ≤ q) s.heap H locs → lv_has ls 17 [(12, .int (nI xc)), (13, .int (nI is)), (11, .int (crA (S (3 + 2 * r)) (levA (S (3 + 2 * r))) 12)), (10, .int (levA (S (3 + 2 * r)))), (0, .ref b), (1, .ref (ad 0)), (2, .int (nI rn)), (3, .int t3), (4, .int t4), (5, .int t5), (6, .int (nI dy)), (7, .int t7), (8, .int (nI r)), (9, .int t9)] → W p l e room_1 s m #[Value.ref b] below meth c H locs (cl + 2 + 50 * is + 34) (sl + 12 + 300 * is + 204) (lw_Z below #[Value.ref b] s) (F0 m 368 ls []) := by
                intro xc exc H locs ls hP hS hl
                subst exc
                refine lv_iconst (v := 0) hx hb dL_law_368 (by decide) ?_
                refine lv_istore (lv' := [(15, .int 0), (12, .int (nI (cL (S (3 + 2 * r)) (levA (S (3 + 2 * r))) (is + 1)))), (13, .int (nI is)), (11, .int (crA (S (3 + 2 * r)) (levA (S (3 + 2 * r))) 12)), (10, .int (levA (S (3 + 2 * r)))), (0, .ref b), (1, .ref (ad 0)), (2, .int (nI rn)), (3, .int t3), (4, .int t4), (5, .int t5), (6, .int (nI dy)), (7, .int t7), (8, .int (nI r)), (9, .int t9)]) hx hb dL_law_369 hl (by decide) rfl (fun ls hl => ?_)
                refine lv_iconst (v := 0) hx hb dL_law_371 (by decide) ?_
                refine lv_istore (lv' := [(16, .int 0), (15, .int 0), (12, .int (nI (cL (S (3 + 2 * r)) (levA (S (3 + 2 * r))) (is + 1)))), (13, .int (nI is)), (11, .int (crA (S (3 + 2 * r)) (levA (S (3 + 2 * r))) 12)), (10, .int (levA (S (3 + 2 * r)))), (0, .ref b), (1, .ref (ad 0)), (2, .int (nI rn)), (3, .int t3), (4, .int t4), (5, .int t5), (6, .int (nI dy)), (7, .int t7), (8, .int (nI r)), (9, .int t9)]) hx hb dL_law_372 hl (by decide) rfl (fun ls hl => ?_)
                have KL374 : ∀ (n374 ip : Nat), ip ≤ 4 → 4 < n374 + ip → ∀ (H : Heap) (locs : List Loc) (ls : Array Slot), va_P E.1 vwCl (dC E ad S zs rn dy bn cn tn) H → va_S (fun q : Nat => s.heap.size ≤ q) s.heap H locs → lv_has ls 17 [(16, .int (nI ip)), (15, .int ((dgA (rw5 (S (3 + 2 * r)) is) ip).1)), (12, .int (nI (cL (S (3 + 2 * r)) (levA (S (3 + 2 * r))) (is + 1)))), (13, .int (nI is)), (11, .int (crA (S (3 + 2 * r)) (levA (S (3 + 2 * r))) 12)), (10, .int (levA (S (3 + 2 * r)))), (0, .ref b), (1, .ref (ad 0)), (2, .int (nI rn)), (3, .int t3), (4, .int t4), (5, .int t5), (6, .int (nI dy)), (7, .int t7), (8, .int (nI r)), (9, .int t9)] → W p l e room_1 s m #[Value.ref b] below meth c H locs (cl + 2 + 50 * is + 34 + 3 * ip) (sl + 12 + 300 * is + 204 + 18 * ip) (lw_Z below #[Value.ref b] s) (F0 m 374 ls []) := by
                  intro n374
                  induction n374 with
                  | zero => intro ip h1 h2; exact absurd h2 (by omega)
                  | succ n374 ih374 =>
                    intro ip hi374 hn374 H locs ls hP hS hl
                    refine lv_iload hx hb dL_law_374 (lv_at hl 0 rfl) ?_
                    refine lv_iconst (v := 4) hx hb dL_law_376 (by decide) ?_
                    refine mz_geN hx hb ip 4 (tgt := 403) dL_law_377 (by decide) (by omega) (by omega) (fun c_377 => ?_) (fun c_377 => ?_)
                    · have hq99 : ip = 4 := by omega
                      subst ip
                      refine lv_aload_n hx hb dL_law_403 rfl (lv_at hl 7 rfl) ?_
                      refine lv_iload hx hb dL_law_404 (lv_at hl 14 rfl) ?_
                      refine lv_iload hx hb dL_law_406 (lv_at hl 3 rfl) ?_
                      refine lv_iconst (v := 0) hx hb dL_law_408 (by decide) ?_
                      refine va_calli (va_runV (As := [.int (nI r), .int (nI is), .int 0]) (rest := []) ⟨hx, hb, hml, hown, hts⟩ (n_dangerD l hlt E ad S zs rn dy bn cn tn r is (by first | omega | assumption) (by first | omega | assumption) (by first | omega | assumption) (by first | omega | assumption)) (cwV 3 hts gL_law_X4_danger rfl rfl rfl (by decide +kernel) ⟨Nat.le_of_ble_eq_true rfl, Nat.le_of_ble_eq_true rfl⟩) ⟨fb_X, va_recv hE.1 hP (ci := 4) (q0 := 0) rfl rfl, fun U hU hW => ⟨rfl, by rw [hU]; exact hP, hE.warm hW, hU9.to hS (fun _ h => h.elim) hU hW⟩⟩ rfl rfl hl.1 rfl (lv_room (Nat.le_of_ble_eq_true rfl)) dL_law_409 ⟨by show _ ≤ 600086; omega, by show _ ≤ 7301442; omega⟩) hS (fun q _ h => h.elim) (fun q h => h.elim) (fun r409 u t H1 locs ht hvm hw hB hz1 hk1 hS => ?_)
                      have hP := hP.ro hk1
                      generalize H1 = H at hP hS ⊢
                      subst hw
                      refine lv_iload hx hb dL_law_412 (lv_at hl 1 rfl) ?_
                      refine mz_lt (tgt := 436) hx hb dL_law_414 (by decide) (fun c_414 => ?_) (fun c_414 => ?_)
                      · exact absurd c_414 (dng_ge (hN _ (by omega)))
                      · refine lv_aload_n hx hb dL_law_417 rfl (lv_at hl 7 rfl) ?_
                        refine lv_iload hx hb dL_law_418 (lv_at hl 14 rfl) ?_
                        refine lv_iload hx hb dL_law_420 (lv_at hl 3 rfl) ?_
                        refine lv_iconst (v := 0) hx hb dL_law_422 (by decide) ?_
                        refine va_calli (va_runV (As := [.int (nI r), .int (nI is), .int 0]) (rest := []) ⟨hx, hb, hml, hown, hts⟩ (n_dangerD l hlt E ad S zs rn dy bn cn tn r is (by first | omega | assumption) (by first | omega | assumption) (by first | omega | assumption) (by first | omega | assumption)) (cwV 3 hts gL_law_X4_danger rfl rfl rfl (by decide +kernel) ⟨Nat.le_of_ble_eq_true rfl, Nat.le_of_ble_eq_true rfl⟩) ⟨fb_X, va_recv hE.1 hP (ci := 4) (q0 := 0) rfl rfl, fun U hU hW => ⟨rfl, by rw [hU]; exact hP, hE.warm hW, hU9.to hS (fun _ h => h.elim) hU hW⟩⟩ rfl rfl hl.1 rfl (lv_room (Nat.le_of_ble_eq_true rfl)) dL_law_423 ⟨by show _ ≤ 600086; omega, by show _ ≤ 7301442; omega⟩) hS (fun q _ h => h.elim) (fun q h => h.elim) (fun r423 u t H1 locs ht hvm hw hB hz1 hk1 hS => ?_)
                        have hP := hP.ro hk1
                        generalize H1 = H at hP hS ⊢
                        subst hw
                        refine lv_iload hx hb dL_law_426 (lv_at hl 1 rfl) ?_
                        refine lv_iload hx hb dL_law_428 (lv_at hl 1 rfl) ?_
                        refine lv_iconst (v := 4) hx hb dL_law_430 (by decide) ?_
                        refine lv_idiv hx hb dL_law_431 (by decide) ?_
                        refine lv_iadd hx hb dL_law_432 ?_
                        refine mz_le (tgt := 438) hx hb dL_law_433 (by decide) (fun c_433 => ?_) (fun c_433 => ?_)
                        · refine mz_iinc (k := 3) (lv' := [(13, .int (nI (is + 1))), (16, .int (nI 4)), (15, .int ((dgA (rw5 (S (3 + 2 * r)) is) 4).1)), (12, .int (nI (cL (S (3 + 2 * r)) (levA (S (3 + 2 * r))) (is + 1)))), (11, .int (crA (S (3 + 2 * r)) (levA (S (3 + 2 * r))) 12)), (10, .int (levA (S (3 + 2 * r)))), (0, .ref b), (1, .ref (ad 0)), (2, .int (nI rn)), (3, .int t3), (4, .int t4), (5, .int t5), (6, .int (nI dy)), (7, .int t7), (8, .int (nI r)), (9, .int t9)]) hx hb is 1 dL_law_438 hl rfl (by decide) rfl (fun ls hl => ?_)
                          refine lv_goto (tgt := 232) hx hb dL_law_441 (by decide) ?_
                          refine W.widen (k := cl + 2 + 50 * (is + 1)) (n := sl + 12 + 300 * (is + 1)) (by omega) (by omega) ?_
                          exact ih232 (is + 1) (by omega) (by omega) _ _ _ hP hS (lv_sub hl [0, 3, 4, 5, 6, 7, 8, 9, 10, 11, 12, 13, 14, 15] rfl)
                        · exact absurd c_433 (dng_le (hN _ (by omega)))
                    · refine lv_iload hx hb dL_law_380 (lv_at hl 1 rfl) ?_
                      refine lv_aload_n hx hb dL_law_382 rfl (lv_at hl 7 rfl) ?_
                      refine lv_iload hx hb dL_law_383 (lv_at hl 14 rfl) ?_
                      refine lv_iload hx hb dL_law_385 (lv_at hl 3 rfl) ?_
                      refine lv_iload hx hb dL_law_387 (lv_at hl 0 rfl) ?_
                      refine va_calli (va_runV (As := [.int (nI r), .int (nI is), .int (nI ip)]) (rest := [.int ((dgA (rw5 (S (3 + 2 * r)) is) ip).1)]) ⟨hx, hb, hml, hown, hts⟩ (n_problem l hlt E ad S zs rn dy bn cn tn r is ip (by first | omega | assumption) (by first | omega | assumption) (by first | omega | assumption) (by first | omega | assumption) (by first | omega | assumption)) (cwV 3 hts gL_law_X4_problem rfl rfl rfl (by decide +kernel) ⟨Nat.le_of_ble_eq_true rfl, Nat.le_of_ble_eq_true rfl⟩) ⟨fb_X, va_recv hE.1 hP (ci := 4) (q0 := 0) rfl rfl, fun U hU hW => ⟨rfl, by rw [hU]; exact hP, hE.warm hW, hU9.to hS (fun _ h => h.elim) hU hW⟩⟩ rfl rfl hl.1 rfl (lv_room (Nat.le_of_ble_eq_true rfl)) dL_law_389 ⟨by show _ ≤ 600086; omega, by show _ ≤ 7301442; omega⟩) hS (fun q _ h => h.elim) (fun q h => h.elim) (fun r389 u t H1 locs ht hvm hw hB hz1 hk1 hS => ?_)
                      have hP := hP.ro hk1
                      generalize H1 = H at hP hS ⊢
                      subst hw
                      refine mz_max hx hb (hml.trans hl.1.symm) hown ml_51 ms_max mi mc_max (Nat.le_of_ble_eq_true rfl) (Nat.le_of_ble_eq_true rfl) (by show _ ≤ 600086; omega) (by show _ ≤ 7301442; omega) dL_law_392 ?_
                      refine lv_istore (lv' := [(15, .int (mx ((dgA (rw5 (S (3 + 2 * r)) is) ip).1) (prR (rw5 (S (3 + 2 * r)) is) ip))), (16, .int (nI ip)), (12, .int (nI (cL (S (3 + 2 * r)) (levA (S (3 + 2 * r))) (is + 1)))), (13, .int (nI is)), (11, .int (crA (S (3 + 2 * r)) (levA (S (3 + 2 * r))) 12)), (10, .int (levA (S (3 + 2 * r)))), (0, .ref b), (1, .ref (ad 0)), (2, .int (nI rn)), (3, .int t3), (4, .int t4), (5, .int t5), (6, .int (nI dy)), (7, .int t7), (8, .int (nI r)), (9, .int t9)]) hx hb dL_law_395 hl (by decide) rfl (fun ls hl => ?_)
                      refine mz_iinc (k := 1) (lv' := [(16, .int (nI (ip + 1))), (15, .int (mx ((dgA (rw5 (S (3 + 2 * r)) is) ip).1) (prR (rw5 (S (3 + 2 * r)) is) ip))), (12, .int (nI (cL (S (3 + 2 * r)) (levA (S (3 + 2 * r))) (is + 1)))), (13, .int (nI is)), (11, .int (crA (S (3 + 2 * r)) (levA (S (3 + 2 * r))) 12)), (10, .int (levA (S (3 + 2 * r)))), (0, .ref b), (1, .ref (ad 0)), (2, .int (nI rn)), (3, .int t3), (4, .int t4), (5, .int t5), (6, .int (nI dy)), (7, .int t7), (8, .int (nI r)), (9, .int t9)]) hx hb ip 1 dL_law_397 hl rfl (by decide) rfl (fun ls hl => ?_)
                      refine lv_goto (tgt := 374) hx hb dL_law_400 (by decide) ?_
                      refine W.widen (k := cl + 2 + 50 * is + 34 + 3 * (ip + 1)) (n := sl + 12 + 300 * is + 204 + 18 * (ip + 1)) (by omega) (by omega) ?_
                      exact ih374 (ip + 1) (by omega) (by omega) _ _ _ hP hS (lv_sub hl [0, 1, 2, 3, 4, 5, 6, 7, 8, 9, 10, 11, 12, 13, 14, 15] rfl)
                refine W.widen (k := cl + 2 + 50 * is + 34 + 3 * 0) (n := sl + 12 + 300 * is + 204 + 18 * 0) (by omega) (by omega) ?_
                exact KL374 (4 + 1 - 0) 0 (by omega) (by omega) _ _ _ hP hS (lv_sub hl [0, 1, 2, 3, 4, 5, 6, 7, 8, 9, 10, 11, 12, 13, 14, 15] rfl)
              refine mz_lt (tgt := 313) hx hb dL_law_306 (by decide) (fun c_306 => ?_) (fun c_306 => ?_)
              · refine lv_iconst (v := 0) hx hb dL_law_313 (by decide) ?_
                refine lv_istore (lv' := [(14, .int 0), (13, .int (nI is)), (12, .int (nI (cL (S (3 + 2 * r)) (levA (S (3 + 2 * r))) is))), (11, .int (crA (S (3 + 2 * r)) (levA (S (3 + 2 * r))) 12)), (10, .int (levA (S (3 + 2 * r)))), (0, .ref b), (1, .ref (ad 0)), (2, .int (nI rn)), (3, .int t3), (4, .int t4), (5, .int t5), (6, .int (nI dy)), (7, .int t7), (8, .int (nI r)), (9, .int t9)]) hx hb dL_law_314 hl (by decide) rfl (fun ls hl => ?_)
                refine lv_iload hx hb dL_law_316 (lv_at hl 3 rfl) ?_
                refine lv_iload hx hb dL_law_318 (lv_at hl 1 rfl) ?_
                refine lv_ishr hx hb dL_law_320 ?_
                refine lv_iconst (v := 1) hx hb dL_law_321 (by decide) ?_
                refine lv_iand hx hb dL_law_322 ?_
                refine mz_fold (y := 0) (cr_out _ _ (by omega) c_306) ?_
                refine lv_iconst (v := 1) hx hb dL_law_323 (by decide) ?_
                refine mz_neN hx hb 0 1 (tgt := 331) dL_law_324 (by decide) (by omega) (by omega) (fun c_324 => ?_) (fun c_324 => ?_)
                · refine lv_iconst (v := 0) hx hb dL_law_331 (by decide) ?_
                  refine lv_iload hx hb dL_law_332 (lv_at hl 0 rfl) ?_
                  refine mz_neN hx hb 0 0 (tgt := 351) dL_law_334 (by decide) (by omega) (by omega) (fun c_334 => ?_) (fun c_334 => ?_)
                  · exact absurd c_334 (by decide)
                  · refine lv_aload_n hx hb dL_law_337 rfl (lv_at hl 6 rfl) ?_
                    refine lv_iload hx hb dL_law_338 (lv_at hl 13 rfl) ?_
                    refine lv_iload hx hb dL_law_340 (lv_at hl 1 rfl) ?_
                    refine lv_iconst (v := 0) hx hb dL_law_342 (by decide) ?_
                    refine va_calli (va_runV (As := [.int (nI r), .int (nI is), .int 0]) (rest := []) ⟨hx, hb, hml, hown, hts⟩ (n_dangerD l hlt E ad S zs rn dy bn cn tn r is (by first | omega | assumption) (by first | omega | assumption) (by first | omega | assumption) (by first | omega | assumption)) (cwV 3 hts gL_law_X4_danger rfl rfl rfl (by decide +kernel) ⟨Nat.le_of_ble_eq_true rfl, Nat.le_of_ble_eq_true rfl⟩) ⟨fb_X, va_recv hE.1 hP (ci := 4) (q0 := 0) rfl rfl, fun U hU hW => ⟨rfl, by rw [hU]; exact hP, hE.warm hW, hU9.to hS (fun _ h => h.elim) hU hW⟩⟩ rfl rfl hl.1 rfl (lv_room (Nat.le_of_ble_eq_true rfl)) dL_law_343 ⟨by show _ ≤ 600086; omega, by show _ ≤ 7301442; omega⟩) hS (fun q _ h => h.elim) (fun q h => h.elim) (fun r343 u t H1 locs ht hvm hw hB hz1 hk1 hS => ?_)
                    have hP := hP.ro hk1
                    generalize H1 = H at hP hS ⊢
                    subst hw
                    refine lv_bipush (v := 125) hx hb dL_law_346 (by decide) ?_
                    refine mz_le (tgt := 353) hx hb dL_law_348 (by decide) (fun c_348 => ?_) (fun c_348 => ?_)
                    · refine lv_iload hx hb dL_law_353 (lv_at hl 2 rfl) ?_
                      refine lv_iload hx hb dL_law_355 (lv_at hl 0 rfl) ?_
                      refine mz_ifeqN hx hb 0 (tgt := 364) dL_law_357 (by decide) (by omega) (fun c_357 => ?_) (fun c_357 => ?_)
                      · refine lv_iconst (v := 0) hx hb dL_law_364 (by decide) ?_
                        refine mz_addN hx hb (cL (S (3 + 2 * r)) (levA (S (3 + 2 * r))) is) 0 dL_law_365 ?_
                        refine lv_istore (lv' := [(12, .int (nI ((cL (S (3 + 2 * r)) (levA (S (3 + 2 * r))) is) + 0))), (14, .int 0), (13, .int (nI is)), (11, .int (crA (S (3 + 2 * r)) (levA (S (3 + 2 * r))) 12)), (10, .int (levA (S (3 + 2 * r)))), (0, .ref b), (1, .ref (ad 0)), (2, .int (nI rn)), (3, .int t3), (4, .int t4), (5, .int t5), (6, .int (nI dy)), (7, .int t7), (8, .int (nI r)), (9, .int t9)]) hx hb dL_law_366 hl (by decide) rfl (fun ls hl => ?_)
                        refine W.widen (k := cl + 2 + 50 * is + 34) (n := sl + 12 + 300 * is + 204) (by omega) (by omega) ?_
                        exact KJ368 ((cL (S (3 + 2 * r)) (levA (S (3 + 2 * r))) is) + 0) (by show _ = (if lvD (dngA (rw5 (S (3 + 2 * r)) is)) < levA (S (3 + 2 * r)) then cL (S (3 + 2 * r)) (levA (S (3 + 2 * r))) is else cL (S (3 + 2 * r)) (levA (S (3 + 2 * r))) is + 1); first | (rw [if_pos c_306]; rfl) | rw [if_neg c_306]) _ _ _ hP hS (lv_sub hl [0, 2, 3, 4, 5, 6, 7, 8, 9, 10, 11, 12, 13, 14] rfl)
                      · exact absurd c_357 (by decide)
                    · exact absurd c_348 (dng_125 (hN _ (by omega)))
                · exact absurd c_324 (by decide)
              · refine lv_iconst (v := 1) hx hb dL_law_309 (by decide) ?_
                refine lv_goto (tgt := 314) hx hb dL_law_310 (by decide) ?_
                refine lv_istore (lv' := [(14, .int 1), (13, .int (nI is)), (12, .int (nI (cL (S (3 + 2 * r)) (levA (S (3 + 2 * r))) is))), (11, .int (crA (S (3 + 2 * r)) (levA (S (3 + 2 * r))) 12)), (10, .int (levA (S (3 + 2 * r)))), (0, .ref b), (1, .ref (ad 0)), (2, .int (nI rn)), (3, .int t3), (4, .int t4), (5, .int t5), (6, .int (nI dy)), (7, .int t7), (8, .int (nI r)), (9, .int t9)]) hx hb dL_law_314 hl (by decide) rfl (fun ls hl => ?_)
                refine lv_iload hx hb dL_law_316 (lv_at hl 3 rfl) ?_
                refine lv_iload hx hb dL_law_318 (lv_at hl 1 rfl) ?_
                refine lv_ishr hx hb dL_law_320 ?_
                refine lv_iconst (v := 1) hx hb dL_law_321 (by decide) ?_
                refine lv_iand hx hb dL_law_322 ?_
                refine mz_fold (y := 1) (cr_in _ _ (by omega) c_306) ?_
                refine lv_iconst (v := 1) hx hb dL_law_323 (by decide) ?_
                refine mz_neN hx hb 1 1 (tgt := 331) dL_law_324 (by decide) (by omega) (by omega) (fun c_324 => ?_) (fun c_324 => ?_)
                · exact absurd c_324 (by decide)
                · refine lv_iconst (v := 1) hx hb dL_law_327 (by decide) ?_
                  refine lv_goto (tgt := 332) hx hb dL_law_328 (by decide) ?_
                  refine lv_iload hx hb dL_law_332 (lv_at hl 0 rfl) ?_
                  refine mz_neN hx hb 1 1 (tgt := 351) dL_law_334 (by decide) (by omega) (by omega) (fun c_334 => ?_) (fun c_334 => ?_)
                  · exact absurd c_334 (by decide)
                  · refine lv_aload_n hx hb dL_law_337 rfl (lv_at hl 6 rfl) ?_
                    refine lv_iload hx hb dL_law_338 (lv_at hl 13 rfl) ?_
                    refine lv_iload hx hb dL_law_340 (lv_at hl 1 rfl) ?_
                    refine lv_iconst (v := 0) hx hb dL_law_342 (by decide) ?_
                    refine va_calli (va_runV (As := [.int (nI r), .int (nI is), .int 0]) (rest := []) ⟨hx, hb, hml, hown, hts⟩ (n_dangerD l hlt E ad S zs rn dy bn cn tn r is (by first | omega | assumption) (by first | omega | assumption) (by first | omega | assumption) (by first | omega | assumption)) (cwV 3 hts gL_law_X4_danger rfl rfl rfl (by decide +kernel) ⟨Nat.le_of_ble_eq_true rfl, Nat.le_of_ble_eq_true rfl⟩) ⟨fb_X, va_recv hE.1 hP (ci := 4) (q0 := 0) rfl rfl, fun U hU hW => ⟨rfl, by rw [hU]; exact hP, hE.warm hW, hU9.to hS (fun _ h => h.elim) hU hW⟩⟩ rfl rfl hl.1 rfl (lv_room (Nat.le_of_ble_eq_true rfl)) dL_law_343 ⟨by show _ ≤ 600086; omega, by show _ ≤ 7301442; omega⟩) hS (fun q _ h => h.elim) (fun q h => h.elim) (fun r343 u t H1 locs ht hvm hw hB hz1 hk1 hS => ?_)
                    have hP := hP.ro hk1
                    generalize H1 = H at hP hS ⊢
                    subst hw
                    refine lv_bipush (v := 125) hx hb dL_law_346 (by decide) ?_
                    refine mz_le (tgt := 353) hx hb dL_law_348 (by decide) (fun c_348 => ?_) (fun c_348 => ?_)
                    · refine lv_iload hx hb dL_law_353 (lv_at hl 2 rfl) ?_
                      refine lv_iload hx hb dL_law_355 (lv_at hl 0 rfl) ?_
                      refine mz_ifeqN hx hb 1 (tgt := 364) dL_law_357 (by decide) (by omega) (fun c_357 => ?_) (fun c_357 => ?_)
                      · exact absurd c_357 (by decide)
                      · refine lv_iconst (v := 1) hx hb dL_law_360 (by decide) ?_
                        refine lv_goto (tgt := 365) hx hb dL_law_361 (by decide) ?_
                        refine mz_addN hx hb (cL (S (3 + 2 * r)) (levA (S (3 + 2 * r))) is) 1 dL_law_365 ?_
                        refine lv_istore (lv' := [(12, .int (nI ((cL (S (3 + 2 * r)) (levA (S (3 + 2 * r))) is) + 1))), (14, .int 1), (13, .int (nI is)), (11, .int (crA (S (3 + 2 * r)) (levA (S (3 + 2 * r))) 12)), (10, .int (levA (S (3 + 2 * r)))), (0, .ref b), (1, .ref (ad 0)), (2, .int (nI rn)), (3, .int t3), (4, .int t4), (5, .int t5), (6, .int (nI dy)), (7, .int t7), (8, .int (nI r)), (9, .int t9)]) hx hb dL_law_366 hl (by decide) rfl (fun ls hl => ?_)
                        refine W.widen (k := cl + 2 + 50 * is + 34) (n := sl + 12 + 300 * is + 204) (by omega) (by omega) ?_
                        exact KJ368 ((cL (S (3 + 2 * r)) (levA (S (3 + 2 * r))) is) + 1) (by show _ = (if lvD (dngA (rw5 (S (3 + 2 * r)) is)) < levA (S (3 + 2 * r)) then cL (S (3 + 2 * r)) (levA (S (3 + 2 * r))) is else cL (S (3 + 2 * r)) (levA (S (3 + 2 * r))) is + 1); first | (rw [if_pos c_306]; rfl) | rw [if_neg c_306]) _ _ _ hP hS (lv_sub hl [0, 2, 3, 4, 5, 6, 7, 8, 9, 10, 11, 12, 13, 14] rfl)
                    · exact absurd c_348 (dng_125 (hN _ (by omega)))
            · refine lv_aload_n hx hb dL_law_248 rfl (lv_at hl 6 rfl) ?_
              refine lv_iload hx hb dL_law_249 (lv_at hl 13 rfl) ?_
              refine lv_iload hx hb dL_law_251 (lv_at hl 1 rfl) ?_
              refine lv_iload hx hb dL_law_253 (lv_at hl 0 rfl) ?_
              refine va_calli (va_runV (As := [.int (nI r), .int (nI is), .int (nI iw)]) (rest := []) ⟨hx, hb, hml, hown, hts⟩ (n_sector l hlt E ad S zs rn dy bn cn tn r is iw (by first | omega | assumption) (by first | omega | assumption) (by first | omega | assumption) (by first | omega | assumption) (by first | omega | assumption)) (cwV 3 hts gL_law_X4_sector rfl rfl rfl (by decide +kernel) ⟨Nat.le_of_ble_eq_true rfl, Nat.le_of_ble_eq_true rfl⟩) ⟨fb_X, va_recv hE.1 hP (ci := 4) (q0 := 0) rfl rfl, fun U hU hW => ⟨rfl, by rw [hU]; exact hP, hE.warm hW, hU9.to hS (fun _ h => h.elim) hU hW⟩⟩ rfl rfl hl.1 rfl (lv_room (Nat.le_of_ble_eq_true rfl)) dL_law_255 ⟨by show _ ≤ 600086; omega, by show _ ≤ 7301442; omega⟩) hS (fun q _ h => h.elim) (fun q h => h.elim) (fun r255 u t H1 locs ht hvm hw hB hz1 hk1 hS => ?_)
              have hP := hP.ro hk1
              generalize H1 = H at hP hS ⊢
              subst hw
              refine lv_if_lt (tgt := 287) hx hb dL_law_258 (by decide) (fun c_258 => ?_) (fun c_258 => ?_)
              · exact absurd c_258 (ok_lo hN (by omega) (by omega))
              · refine lv_aload_n hx hb dL_law_261 rfl (lv_at hl 6 rfl) ?_
                refine lv_iload hx hb dL_law_262 (lv_at hl 13 rfl) ?_
                refine lv_iload hx hb dL_law_264 (lv_at hl 1 rfl) ?_
                refine lv_iload hx hb dL_law_266 (lv_at hl 0 rfl) ?_
                refine va_calli (va_runV (As := [.int (nI r), .int (nI is), .int (nI iw)]) (rest := []) ⟨hx, hb, hml, hown, hts⟩ (n_sector l hlt E ad S zs rn dy bn cn tn r is iw (by first | omega | assumption) (by first | omega | assumption) (by first | omega | assumption) (by first | omega | assumption) (by first | omega | assumption)) (cwV 3 hts gL_law_X4_sector rfl rfl rfl (by decide +kernel) ⟨Nat.le_of_ble_eq_true rfl, Nat.le_of_ble_eq_true rfl⟩) ⟨fb_X, va_recv hE.1 hP (ci := 4) (q0 := 0) rfl rfl, fun U hU hW => ⟨rfl, by rw [hU]; exact hP, hE.warm hW, hU9.to hS (fun _ h => h.elim) hU hW⟩⟩ rfl rfl hl.1 rfl (lv_room (Nat.le_of_ble_eq_true rfl)) dL_law_268 ⟨by show _ ≤ 600086; omega, by show _ ≤ 7301442; omega⟩) hS (fun q _ h => h.elim) (fun q h => h.elim) (fun r268 u t H1 locs ht hvm hw hB hz1 hk1 hS => ?_)
                have hP := hP.ro hk1
                generalize H1 = H at hP hS ⊢
                subst hw
                refine lv_iload hx hb dL_law_271 (lv_at hl 0 rfl) ?_
                refine lv_iconst (v := 4) hx hb dL_law_273 (by decide) ?_
                refine mz_neN hx hb iw 4 (tgt := 282) dL_law_274 (by decide) (by omega) (by omega) (fun c_274 => ?_) (fun c_274 => ?_)
                · refine lv_bipush (v := 100) hx hb dL_law_282 (by decide) ?_
                  refine mz_le (tgt := 289) hx hb dL_law_284 (by decide) (fun c_284 => ?_) (fun c_284 => ?_)
                  · refine mz_iinc (k := 0) (lv' := [(14, .int (nI (iw + 1))), (13, .int (nI is)), (12, .int (nI (cL (S (3 + 2 * r)) (levA (S (3 + 2 * r))) is))), (11, .int (crA (S (3 + 2 * r)) (levA (S (3 + 2 * r))) 12)), (10, .int (levA (S (3 + 2 * r)))), (0, .ref b), (1, .ref (ad 0)), (2, .int (nI rn)), (3, .int t3), (4, .int t4), (5, .int t5), (6, .int (nI dy)), (7, .int t7), (8, .int (nI r)), (9, .int t9)]) hx hb iw 1 dL_law_289 hl rfl (by decide) rfl (fun ls hl => ?_)
                    refine lv_goto (tgt := 242) hx hb dL_law_292 (by decide) ?_
                    refine W.widen (k := cl + 2 + 50 * is + 6 * (iw + 1)) (n := sl + 12 + 300 * is + 36 * (iw + 1)) (by omega) (by omega) ?_
                    exact ih242 (iw + 1) (by omega) (by omega) _ _ _ hP hS (lv_sub hl [0, 1, 2, 3, 4, 5, 6, 7, 8, 9, 10, 11, 12, 13, 14] rfl)
                  · first | exact absurd c_284 (ok_h10 hN (by omega) c_274) | exact absurd c_284 (ok_h100 hN (by omega) (by omega))
                · refine lv_bipush (v := 10) hx hb dL_law_277 (by decide) ?_
                  refine lv_goto (tgt := 284) hx hb dL_law_279 (by decide) ?_
                  refine mz_le (tgt := 289) hx hb dL_law_284 (by decide) (fun c_284 => ?_) (fun c_284 => ?_)
                  · refine mz_iinc (k := 0) (lv' := [(14, .int (nI (iw + 1))), (13, .int (nI is)), (12, .int (nI (cL (S (3 + 2 * r)) (levA (S (3 + 2 * r))) is))), (11, .int (crA (S (3 + 2 * r)) (levA (S (3 + 2 * r))) 12)), (10, .int (levA (S (3 + 2 * r)))), (0, .ref b), (1, .ref (ad 0)), (2, .int (nI rn)), (3, .int t3), (4, .int t4), (5, .int t5), (6, .int (nI dy)), (7, .int t7), (8, .int (nI r)), (9, .int t9)]) hx hb iw 1 dL_law_289 hl rfl (by decide) rfl (fun ls hl => ?_)
                    refine lv_goto (tgt := 242) hx hb dL_law_292 (by decide) ?_
                    refine W.widen (k := cl + 2 + 50 * is + 6 * (iw + 1)) (n := sl + 12 + 300 * is + 36 * (iw + 1)) (by omega) (by omega) ?_
                    exact ih242 (iw + 1) (by omega) (by omega) _ _ _ hP hS (lv_sub hl [0, 1, 2, 3, 4, 5, 6, 7, 8, 9, 10, 11, 12, 13, 14] rfl)
                  · first | exact absurd c_284 (ok_h10 hN (by omega) c_274) | exact absurd c_284 (ok_h100 hN (by omega) (by omega))
        refine W.widen (k := cl + 2 + 50 * is + 6 * 0) (n := sl + 12 + 300 * is + 36 * 0) (by omega) (by omega) ?_
        exact KL242 (5 + 1 - 0) 0 (by omega) (by omega) _ _ _ hP hS (lv_sub hl [0, 1, 2, 3, 4, 5, 6, 7, 8, 9, 10, 11, 12, 13, 14] rfl)
  refine W.widen (k := cl + 2 + 50 * 0) (n := sl + 12 + 300 * 0) (by omega) (by omega) ?_
  exact KL232 (12 + 1 - 0) 0 (by omega) (by omega) _ _ _ hP hS (lv_sub hl [0, 1, 2, 3, 4, 5, 6, 7, 8, 9, 10, 11, 12, 13] rfl)
