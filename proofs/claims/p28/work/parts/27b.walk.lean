set_option maxHeartbeats 4000000 in
set_option maxRecDepth 100000 in
/-- an avalanche is seen, or none -/
theorem lw_see {p : Program} {e : Env} {s : State} {m : MethodId} {below : List Frame} {meth : Method} {c : Code} (l : Launch) (hlt : l.stackTraces = false) {b L : Nat} {xs : Nat → Int32} (hL : L ≤ 260) (C0 : lw_At p s m meth c b L xs) {E : ev_T} {ad : Nat → Nat} (hE : ev_U E s) (hU9 : ex_U (fun q : Nat => s.heap.size ≤ q) s s.heap) (hDD : ∀ S zs rn dy bn cn tn, va_D (fun q : Nat => s.heap.size ≤ q) (dC E ad S zs rn dy bn cn tn)) {S : Nat → Nat → Int32} {zs : Nat → Nat} {rn dy bn cn tn : Nat} {r : Nat} {t3 t4 t5 t7 t9 : Int32} (hST : ST S zs rn dy) (hFK : FK (S 18) zs rn t4 t5) (h18 : dy < 18) (hrr : r < rn) (hcn : cn ≤ 4 * dy + r) {cl sl : Nat} (hcl : cl + 606 ≤ 600086) (hsl : sl + 3636 ≤ 7301442)
    (K : ∀ (S : Nat → Nat → Int32) (cn : Nat) (H : Heap) (locs : List Loc) (ls : Array Slot), ST S zs rn dy → FK (S 18) zs rn t4 t5 → cn ≤ 4 * dy + (r + 1) → va_P E.1 vwCl (dC E ad S zs rn dy bn cn tn) H → va_S (fun q : Nat => s.heap.size ≤ q) s.heap H locs → lv_has ls 17 [(0, .ref b), (1, .ref (ad 0)), (2, .int (nI rn)), (3, .int t3), (4, .int t4), (5, .int t5), (6, .int (nI dy)), (7, .int t7), (8, .int (nI r))] → W p l e room_1 s m #[Value.ref b] below meth c H locs (cl + 606) (sl + 3636) (lw_Z below #[Value.ref b] s) (F0 m 464 ls [])) {H : Heap} {locs : List Loc} {ls : Array Slot} (hP : va_P E.1 vwCl (dC E ad S zs rn dy bn cn tn) H) (hS : va_S (fun q : Nat => s.heap.size ≤ q) s.heap H locs) (hl : lv_has ls 17 [(0, .ref b), (1, .ref (ad 0)), (2, .int (nI rn)), (3, .int t3), (4, .int t4), (5, .int t5), (6, .int (nI dy)), (7, .int t7), (8, .int (nI r)), (9, .int t9)]) : W p l e room_1 s m #[Value.ref b] below meth c H locs cl sl (lw_Z below #[Value.ref b] s) (F0 m 171 ls []) := by
  obtain ⟨hx, hb, hr, hml, hown, hts0, hX, hbl, hlocks, hgv⟩ := id C0
  have hts : ∀ w ∈ wsL_law, w.before #[Value.ref b] s = true := fun w h => hts0 w (wsL_law_in w h)
  have hown : s.vm.findClass RL = some m.cls := hown
  have hA : ∀ q : Nat, s.heap.size ≤ q → (fun q : Nat => s.heap.size ≤ q) q := fun _ h => h
  have hbA : ¬ (fun q : Nat => s.heap.size ≤ q) b := Nat.not_le.mpr hbl
  have hrn4 := hST.1
  refine lv_iload hx hb dL_law_171 (lv_at hl 9 rfl) ?_
  refine lv_iconst (v := 5) hx hb dL_law_173 (by decide) ?_
  refine lv_ishr hx hb dL_law_174 ?_
  refine lv_iconst (v := 3) hx hb dL_law_175 (by decide) ?_
  refine va_calli (va_runS (As := [.int (t9 >>> (5 &&& 31)), .int 3]) (rest := []) ⟨hx, hb, hml, hown, hts⟩ (kL_below l E (t9 >>> (5 &&& 31)) 3 (by first | omega | assumption | (intro k h; have := hz k h; omega)) (by first | omega | assumption | (intro k h; have := hz k h; omega))) (va_cwS 2 hts gL_law_L_below rfl rfl rfl (by decide +kernel) ⟨Nat.le_of_ble_eq_true rfl, Nat.le_of_ble_eq_true rfl⟩) ⟨fb_0, fun U hU hW => ⟨rfl, trivial⟩⟩ rfl rfl hl.1 rfl (lv_room (Nat.le_of_ble_eq_true rfl)) dL_law_176 ⟨by show _ ≤ 600086; omega, by show _ ≤ 7301442; omega⟩) hS (fun q _ h => h.elim) (fun q h => h.elim) (fun r176_0 u t H1 locs ht hvm hw hB hz1 hk1 hS => ?_)
  have hP := hP.ro hk1
  generalize H1 = H at hP hS ⊢
  subst hw
  have hb9_176 := bl_lt (t9 >>> (5 &&& 31)) (n := 3) (by decide)
  refine mz_ifneN hx hb (bl (t9 >>> (5 &&& 31)) 3) (tgt := 210) dL_law_179 (by decide) (by omega) (fun c_179 => ?_) (fun c_179 => ?_)
  · have hST9 : ST S zs rn dy := hST
    have hFK9 : FK (S 18) zs rn t4 t5 := hFK
    refine lw_sec l hlt hL C0 hE hU9 hDD (by omega) h18 hrr (hST9.2.1 r (by omega)) (cl := cl) (sl := sl) (by omega) (by omega) (fun H locs ls hP hS hl => ?_) hP hS (lv_sub hl [0, 1, 2, 3, 4, 5, 6, 7, 8, 9] rfl)
    refine W.widen (k := cl + 606) (n := sl + 3636) (by omega) (by omega) ?_
    exact K _ _ _ _ _ hST9 hFK9 (by omega) hP hS hl
  · refine lv_aload_n hx hb dL_law_182 rfl (lv_at hl 1 rfl) ?_
    refine lv_iload hx hb dL_law_183 (lv_at hl 8 rfl) ?_
    refine lv_iload hx hb dL_law_185 (lv_at hl 9 rfl) ?_
    refine lv_bipush (v := 6) hx hb dL_law_187 (by decide) ?_
    refine lv_ishr hx hb dL_law_189 ?_
    refine lv_bipush (v := 12) hx hb dL_law_190 (by decide) ?_
    refine va_calli (va_runS (As := [.int (t9 >>> (6 &&& 31)), .int 12]) (rest := [.int (nI r), .ref (ad 0)]) ⟨hx, hb, hml, hown, hts⟩ (kL_below l E (t9 >>> (6 &&& 31)) 12 (by first | omega | assumption | (intro k h; have := hz k h; omega)) (by first | omega | assumption | (intro k h; have := hz k h; omega))) (va_cwS 2 hts gL_law_L_below rfl rfl rfl (by decide +kernel) ⟨Nat.le_of_ble_eq_true rfl, Nat.le_of_ble_eq_true rfl⟩) ⟨fb_0, fun U hU hW => ⟨rfl, trivial⟩⟩ rfl rfl hl.1 rfl (lv_room (Nat.le_of_ble_eq_true rfl)) dL_law_192 ⟨by show _ ≤ 600086; omega, by show _ ≤ 7301442; omega⟩) hS (fun q _ h => h.elim) (fun q h => h.elim) (fun r192_1 u t H1 locs ht hvm hw hB hz1 hk1 hS => ?_)
    have hP := hP.ro hk1
    generalize H1 = H at hP hS ⊢
    subst hw
    have hb9_192 := bl_lt (t9 >>> (6 &&& 31)) (n := 12) (by decide)
    refine lv_iconst (v := 1) hx hb dL_law_195 (by decide) ?_
    refine lv_iload hx hb dL_law_196 (lv_at hl 9 rfl) ?_
    refine lv_bipush (v := 8) hx hb dL_law_198 (by decide) ?_
    refine lv_ishr hx hb dL_law_200 ?_
    refine lv_iconst (v := 5) hx hb dL_law_201 (by decide) ?_
    refine va_calli (va_runS (As := [.int (t9 >>> (8 &&& 31)), .int 5]) (rest := [.int 1, .int (nI (bl (t9 >>> (6 &&& 31)) 12)), .int (nI r), .ref (ad 0)]) ⟨hx, hb, hml, hown, hts⟩ (kL_below l E (t9 >>> (8 &&& 31)) 5 (by first | omega | assumption | (intro k h; have := hz k h; omega)) (by first | omega | assumption | (intro k h; have := hz k h; omega))) (va_cwS 2 hts gL_law_L_below rfl rfl rfl (by decide +kernel) ⟨Nat.le_of_ble_eq_true rfl, Nat.le_of_ble_eq_true rfl⟩) ⟨fb_0, fun U hU hW => ⟨rfl, trivial⟩⟩ rfl rfl hl.1 rfl (lv_room (Nat.le_of_ble_eq_true rfl)) dL_law_202 ⟨by show _ ≤ 600086; omega, by show _ ≤ 7301442; omega⟩) hS (fun q _ h => h.elim) (fun q h => h.elim) (fun r202_2 u t H1 locs ht hvm hw hB hz1 hk1 hS => ?_)
    have hP := hP.ro hk1
    generalize H1 = H at hP hS ⊢
    subst hw
    have hb9_202 := bl_lt (t9 >>> (8 &&& 31)) (n := 5) (by decide)
    refine mz_addN hx hb 1 (bl (t9 >>> (8 &&& 31)) 5) dL_law_205 ?_
    have hb1 := bl_lt (t9 >>> (6 &&& 31)) (n := 12) (by decide)
    have hb2 := bl_lt (t9 >>> (8 &&& 31)) (n := 5) (by decide)
    have hDc := hDD S zs rn dy bn cn tn
    have hFc := fr_free hDc hS hA
    refine va_calli (va_runV (As := [.int (nI r), .int (nI (bl (t9 >>> (6 &&& 31)) 12)), .int (nI (1 + (bl (t9 >>> (8 &&& 31)) 5)))]) (rest := []) ⟨hx, hb, hml, hown, hts⟩ (n_see l hlt E ad S zs rn dy bn cn tn r (bl (t9 >>> (6 &&& 31)) 12) (1 + (bl (t9 >>> (8 &&& 31)) 5)) H.size (by first | omega | assumption) (by first | omega | assumption) (by first | omega | assumption) (by first | omega | assumption) (by first | omega | assumption) (by first | omega | assumption) (by first | omega | assumption) (by first | omega | assumption)) (cwV 3 hts gL_law_X4_see rfl rfl rfl (by decide +kernel) ⟨Nat.le_of_ble_eq_true rfl, Nat.le_of_ble_eq_true rfl⟩) ⟨fb_Y, va_recv hE.1 hP (ci := 4) (q0 := 0) rfl rfl, fun U hU hW => ⟨rfl, by rw [hU], by rw [hU]; exact hP, hDc.weaken (fun _ _ _ _ => trivial), hE.warm hW, hU9.to hS hFc hU hW⟩⟩ rfl rfl hl.1 rfl (lv_room (Nat.le_of_ble_eq_true rfl)) dL_law_206 ⟨by show _ ≤ 600086; omega, by show _ ≤ 7301442; omega⟩) hS (fun q _ h => hFc q h) hFc (fun r206 u t H1 locs ht hvm hw hB hz1 hk1 hS => ?_)
    rw [ht] at hB
    have hP : va_P E.1 vwCl (dC E ad (va_up (va_up (va_up (va_up S 20 (upd (S 20) cn (nI dy))) 21 (upd (S 21) cn (nI r))) 22 (upd (S 22) cn (nI (bl (t9 >>> (6 &&& 31)) 12)))) 23 (upd (S 23) (dy * 6 + r) (S 23 (dy * 6 + r) + nI ((1 + (bl (t9 >>> (8 &&& 31)) 5)) * (1 + (bl (t9 >>> (8 &&& 31)) 5)))))) zs rn dy bn (cn + 1) tn) H1 := hB
    clear hDc hFc
    generalize H1 = H at hP hS ⊢
    refine lv_pop hx hb dL_law_209 rfl ?_
    have hST9 : ST (va_up (va_up (va_up (va_up S 20 (upd (S 20) cn (nI dy))) 21 (upd (S 21) cn (nI r))) 22 (upd (S 22) cn (nI (bl (t9 >>> (6 &&& 31)) 12)))) 23 (upd (S 23) (dy * 6 + r) (S 23 (dy * 6 + r) + nI ((1 + (bl (t9 >>> (8 &&& 31)) 5)) * (1 + (bl (t9 >>> (8 &&& 31)) 5)))))) zs rn dy := hST.see _ _ _ _
    have hFK9 : FK ((va_up (va_up (va_up (va_up S 20 (upd (S 20) cn (nI dy))) 21 (upd (S 21) cn (nI r))) 22 (upd (S 22) cn (nI (bl (t9 >>> (6 &&& 31)) 12)))) 23 (upd (S 23) (dy * 6 + r) (S 23 (dy * 6 + r) + nI ((1 + (bl (t9 >>> (8 &&& 31)) 5)) * (1 + (bl (t9 >>> (8 &&& 31)) 5)))))) 18) zs rn t4 t5 := by rw [see_18]; exact hFK
    refine lw_sec l hlt hL C0 hE hU9 hDD (by omega) h18 hrr (hST9.2.1 r (by omega)) (cl := cl + 4) (sl := sl + 24) (by omega) (by omega) (fun H locs ls hP hS hl => ?_) hP hS (lv_sub hl [0, 1, 2, 3, 4, 5, 6, 7, 8, 9] rfl)
    refine W.widen (k := cl + 606) (n := sl + 3636) (by omega) (by omega) ?_
    exact K _ _ _ _ _ hST9 hFK9 (by omega) hP hS hl
set_option maxHeartbeats 4000000 in
set_option maxRecDepth 100000 in
/-- a weather is told, or none -/
theorem lw_wea {p : Program} {e : Env} {s : State} {m : MethodId} {below : List Frame} {meth : Method} {c : Code} (l : Launch) (hlt : l.stackTraces = false) {b L : Nat} {xs : Nat → Int32} (hL : L ≤ 260) (C0 : lw_At p s m meth c b L xs) {E : ev_T} {ad : Nat → Nat} (hE : ev_U E s) (hU9 : ex_U (fun q : Nat => s.heap.size ≤ q) s s.heap) (hDD : ∀ S zs rn dy bn cn tn, va_D (fun q : Nat => s.heap.size ≤ q) (dC E ad S zs rn dy bn cn tn)) {S : Nat → Nat → Int32} {zs : Nat → Nat} {rn dy bn cn tn : Nat} {r : Nat} {t3 t4 t5 t7 : Int32} (hST : ST S zs rn dy) (hFK : FK (S 18) zs rn t4 t5) (h18 : dy < 18) (hrr : r < rn) (hcn : cn ≤ 4 * dy + r) {cl sl : Nat} (hcl : cl + 608 ≤ 600086) (hsl : sl + 3648 ≤ 7301442)
    (K : ∀ (S : Nat → Nat → Int32) (cn : Nat) (H : Heap) (locs : List Loc) (ls : Array Slot), ST S zs rn dy → FK (S 18) zs rn t4 t5 → cn ≤ 4 * dy + (r + 1) → va_P E.1 vwCl (dC E ad S zs rn dy bn cn tn) H → va_S (fun q : Nat => s.heap.size ≤ q) s.heap H locs → lv_has ls 17 [(0, .ref b), (1, .ref (ad 0)), (2, .int (nI rn)), (3, .int t3), (4, .int t4), (5, .int t5), (6, .int (nI dy)), (7, .int t7), (8, .int (nI r))] → W p l e room_1 s m #[Value.ref b] below meth c H locs (cl + 608) (sl + 3648) (lw_Z below #[Value.ref b] s) (F0 m 464 ls [])) {H : Heap} {locs : List Loc} {ls : Array Slot} (hP : va_P E.1 vwCl (dC E ad S zs rn dy bn cn tn) H) (hS : va_S (fun q : Nat => s.heap.size ≤ q) s.heap H locs) (hl : lv_has ls 17 [(0, .ref b), (1, .ref (ad 0)), (2, .int (nI rn)), (3, .int t3), (4, .int t4), (5, .int t5), (6, .int (nI dy)), (7, .int t7), (8, .int (nI r))]) : W p l e room_1 s m #[Value.ref b] below meth c H locs cl sl (lw_Z below #[Value.ref b] s) (F0 m 93 ls []) := by
  obtain ⟨hx, hb, hr, hml, hown, hts0, hX, hbl, hlocks, hgv⟩ := id C0
  have hts : ∀ w ∈ wsL_law, w.before #[Value.ref b] s = true := fun w h => hts0 w (wsL_law_in w h)
  have hown : s.vm.findClass RL = some m.cls := hown
  have hA : ∀ q : Nat, s.heap.size ≤ q → (fun q : Nat => s.heap.size ≤ q) q := fun _ h => h
  have hbA : ¬ (fun q : Nat => s.heap.size ≤ q) b := Nat.not_le.mpr hbl
  have hrn4 := hST.1
  refine lv_iload hx hb dL_law_93 (lv_at hl 7 rfl) ?_
  refine lv_iload hx hb dL_law_95 (lv_at hl 8 rfl) ?_
  refine lv_sipush (v := 7919) hx hb dL_law_97 (by decide) ?_
  refine mz_mulN hx hb r 7919 dL_law_100 ?_
  refine lv_ixor hx hb dL_law_101 ?_
  refine lv_istore (lv' := [(9, .int (t7 ^^^ (nI (r * 7919)))), (0, .ref b), (1, .ref (ad 0)), (2, .int (nI rn)), (3, .int t3), (4, .int t4), (5, .int t5), (6, .int (nI dy)), (7, .int t7), (8, .int (nI r))]) hx hb dL_law_102 hl (by decide) rfl (fun ls hl => ?_)
  obtain ⟨y9, hy9⟩ : ∃ z, z = t7 ^^^ (nI (r * 7919)) := ⟨_, rfl⟩
  have hl : lv_has ls 17 [(9, .int y9), (0, .ref b), (1, .ref (ad 0)), (2, .int (nI rn)), (3, .int t3), (4, .int t4), (5, .int t5), (6, .int (nI dy)), (7, .int t7), (8, .int (nI r))] := by rw [hy9]; exact hl
  refine lv_iload hx hb dL_law_104 (lv_at hl 0 rfl) ?_
  refine lv_iconst (v := 5) hx hb dL_law_106 (by decide) ?_
  refine va_calli (va_runS (As := [.int y9, .int 5]) (rest := []) ⟨hx, hb, hml, hown, hts⟩ (kL_below l E y9 5 (by first | omega | assumption | (intro k h; have := hz k h; omega)) (by first | omega | assumption | (intro k h; have := hz k h; omega))) (va_cwS 2 hts gL_law_L_below rfl rfl rfl (by decide +kernel) ⟨Nat.le_of_ble_eq_true rfl, Nat.le_of_ble_eq_true rfl⟩) ⟨fb_0, fun U hU hW => ⟨rfl, trivial⟩⟩ rfl rfl hl.1 rfl (lv_room (Nat.le_of_ble_eq_true rfl)) dL_law_107 ⟨by show _ ≤ 600086; omega, by show _ ≤ 7301442; omega⟩) hS (fun q _ h => h.elim) (fun q h => h.elim) (fun r107_0 u t H1 locs ht hvm hw hB hz1 hk1 hS => ?_)
  have hP := hP.ro hk1
  generalize H1 = H at hP hS ⊢
  subst hw
  have hb9_107 := bl_lt y9 (n := 5) (by decide)
  refine mz_ifleN hx hb (bl y9 5) (tgt := 171) dL_law_110 (by decide) (by omega) (fun c_110 => ?_) (fun c_110 => ?_)
  · have hST9 : ST S zs rn dy := hST
    have hFK9 : FK (S 18) zs rn t4 t5 := hFK
    refine lw_see l hlt hL C0 hE hU9 hDD hST9 hFK9 h18 hrr hcn (cl := cl) (sl := sl) (by omega) (by omega) (fun S cn H locs ls hST hFK hcn hP hS hl => ?_) hP hS (lv_sub hl [1, 2, 3, 4, 5, 6, 7, 8, 9, 0] rfl)
    refine W.widen (k := cl + 608) (n := sl + 3648) (by omega) (by omega) ?_
    exact K _ _ _ _ _ hST hFK hcn hP hS hl
  · refine lv_aload_n hx hb dL_law_113 rfl (lv_at hl 2 rfl) ?_
    refine lv_iload hx hb dL_law_114 (lv_at hl 9 rfl) ?_
    refine lv_iload hx hb dL_law_116 (lv_at hl 0 rfl) ?_
    refine lv_iconst (v := 3) hx hb dL_law_118 (by decide) ?_
    refine lv_ishr hx hb dL_law_119 ?_
    refine lv_iconst (v := 2) hx hb dL_law_120 (by decide) ?_
    refine va_calli (va_runS (As := [.int (y9 >>> (3 &&& 31)), .int 2]) (rest := [.int (nI r), .ref (ad 0)]) ⟨hx, hb, hml, hown, hts⟩ (kL_below l E (y9 >>> (3 &&& 31)) 2 (by first | omega | assumption | (intro k h; have := hz k h; omega)) (by first | omega | assumption | (intro k h; have := hz k h; omega))) (va_cwS 2 hts gL_law_L_below rfl rfl rfl (by decide +kernel) ⟨Nat.le_of_ble_eq_true rfl, Nat.le_of_ble_eq_true rfl⟩) ⟨fb_0, fun U hU hW => ⟨rfl, trivial⟩⟩ rfl rfl hl.1 rfl (lv_room (Nat.le_of_ble_eq_true rfl)) dL_law_121 ⟨by show _ ≤ 600086; omega, by show _ ≤ 7301442; omega⟩) hS (fun q _ h => h.elim) (fun q h => h.elim) (fun r121_1 u t H1 locs ht hvm hw hB hz1 hk1 hS => ?_)
    have hP := hP.ro hk1
    generalize H1 = H at hP hS ⊢
    subst hw
    have hb9_121 := bl_lt (y9 >>> (3 &&& 31)) (n := 2) (by decide)
    refine lv_iload hx hb dL_law_124 (lv_at hl 0 rfl) ?_
    refine lv_iconst (v := 4) hx hb dL_law_126 (by decide) ?_
    refine lv_ishr hx hb dL_law_127 ?_
    refine lv_sipush (v := 151) hx hb dL_law_128 (by decide) ?_
    refine va_calli (va_runS (As := [.int (y9 >>> (4 &&& 31)), .int 151]) (rest := [.int (nI (bl (y9 >>> (3 &&& 31)) 2)), .int (nI r), .ref (ad 0)]) ⟨hx, hb, hml, hown, hts⟩ (kL_below l E (y9 >>> (4 &&& 31)) 151 (by first | omega | assumption | (intro k h; have := hz k h; omega)) (by first | omega | assumption | (intro k h; have := hz k h; omega))) (va_cwS 2 hts gL_law_L_below rfl rfl rfl (by decide +kernel) ⟨Nat.le_of_ble_eq_true rfl, Nat.le_of_ble_eq_true rfl⟩) ⟨fb_0, fun U hU hW => ⟨rfl, trivial⟩⟩ rfl rfl hl.1 rfl (lv_room (Nat.le_of_ble_eq_true rfl)) dL_law_131 ⟨by show _ ≤ 600086; omega, by show _ ≤ 7301442; omega⟩) hS (fun q _ h => h.elim) (fun q h => h.elim) (fun r131_2 u t H1 locs ht hvm hw hB hz1 hk1 hS => ?_)
    have hP := hP.ro hk1
    generalize H1 = H at hP hS ⊢
    subst hw
    have hb9_131 := bl_lt (y9 >>> (4 &&& 31)) (n := 151) (by decide)
    refine mz_mulN hx hb (bl (y9 >>> (3 &&& 31)) 2) (bl (y9 >>> (4 &&& 31)) 151) dL_law_134 ?_
    refine lv_iload hx hb dL_law_135 (lv_at hl 0 rfl) ?_
    refine lv_bipush (v := 7) hx hb dL_law_137 (by decide) ?_
    refine lv_ishr hx hb dL_law_139 ?_
    refine lv_bipush (v := 121) hx hb dL_law_140 (by decide) ?_
    refine va_calli (va_runS (As := [.int (y9 >>> (7 &&& 31)), .int 121]) (rest := [.int (nI ((bl (y9 >>> (3 &&& 31)) 2) * (bl (y9 >>> (4 &&& 31)) 151))), .int (nI r), .ref (ad 0)]) ⟨hx, hb, hml, hown, hts⟩ (kL_below l E (y9 >>> (7 &&& 31)) 121 (by first | omega | assumption | (intro k h; have := hz k h; omega)) (by first | omega | assumption | (intro k h; have := hz k h; omega))) (va_cwS 2 hts gL_law_L_below rfl rfl rfl (by decide +kernel) ⟨Nat.le_of_ble_eq_true rfl, Nat.le_of_ble_eq_true rfl⟩) ⟨fb_0, fun U hU hW => ⟨rfl, trivial⟩⟩ rfl rfl hl.1 rfl (lv_room (Nat.le_of_ble_eq_true rfl)) dL_law_142 ⟨by show _ ≤ 600086; omega, by show _ ≤ 7301442; omega⟩) hS (fun q _ h => h.elim) (fun q h => h.elim) (fun r142_3 u t H1 locs ht hvm hw hB hz1 hk1 hS => ?_)
    have hP := hP.ro hk1
    generalize H1 = H at hP hS ⊢
    subst hw
    have hb9_142 := bl_lt (y9 >>> (7 &&& 31)) (n := 121) (by decide)
    refine lv_iload hx hb dL_law_145 (lv_at hl 0 rfl) ?_
    refine lv_bipush (v := 9) hx hb dL_law_147 (by decide) ?_
    refine lv_ishr hx hb dL_law_149 ?_
    refine lv_iconst (v := 4) hx hb dL_law_150 (by decide) ?_
    refine va_calli (va_runS (As := [.int (y9 >>> (9 &&& 31)), .int 4]) (rest := [.int (nI (bl (y9 >>> (7 &&& 31)) 121)), .int (nI ((bl (y9 >>> (3 &&& 31)) 2) * (bl (y9 >>> (4 &&& 31)) 151))), .int (nI r), .ref (ad 0)]) ⟨hx, hb, hml, hown, hts⟩ (kL_below l E (y9 >>> (9 &&& 31)) 4 (by first | omega | assumption | (intro k h; have := hz k h; omega)) (by first | omega | assumption | (intro k h; have := hz k h; omega))) (va_cwS 2 hts gL_law_L_below rfl rfl rfl (by decide +kernel) ⟨Nat.le_of_ble_eq_true rfl, Nat.le_of_ble_eq_true rfl⟩) ⟨fb_0, fun U hU hW => ⟨rfl, trivial⟩⟩ rfl rfl hl.1 rfl (lv_room (Nat.le_of_ble_eq_true rfl)) dL_law_151 ⟨by show _ ≤ 600086; omega, by show _ ≤ 7301442; omega⟩) hS (fun q _ h => h.elim) (fun q h => h.elim) (fun r151_4 u t H1 locs ht hvm hw hB hz1 hk1 hS => ?_)
    have hP := hP.ro hk1
    generalize H1 = H at hP hS ⊢
    subst hw
    have hb9_151 := bl_lt (y9 >>> (9 &&& 31)) (n := 4) (by decide)
    refine lv_iload hx hb dL_law_154 (lv_at hl 0 rfl) ?_
    refine lv_bipush (v := 11) hx hb dL_law_156 (by decide) ?_
    refine lv_ishr hx hb dL_law_158 ?_
    refine lv_bipush (v := 46) hx hb dL_law_159 (by decide) ?_
    refine va_calli (va_runS (As := [.int (y9 >>> (11 &&& 31)), .int 46]) (rest := [.int (nI (bl (y9 >>> (9 &&& 31)) 4)), .int (nI (bl (y9 >>> (7 &&& 31)) 121)), .int (nI ((bl (y9 >>> (3 &&& 31)) 2) * (bl (y9 >>> (4 &&& 31)) 151))), .int (nI r), .ref (ad 0)]) ⟨hx, hb, hml, hown, hts⟩ (kL_below l E (y9 >>> (11 &&& 31)) 46 (by first | omega | assumption | (intro k h; have := hz k h; omega)) (by first | omega | assumption | (intro k h; have := hz k h; omega))) (va_cwS 2 hts gL_law_L_below rfl rfl rfl (by decide +kernel) ⟨Nat.le_of_ble_eq_true rfl, Nat.le_of_ble_eq_true rfl⟩) ⟨fb_0, fun U hU hW => ⟨rfl, trivial⟩⟩ rfl rfl hl.1 rfl (lv_room (Nat.le_of_ble_eq_true rfl)) dL_law_161 ⟨by show _ ≤ 600086; omega, by show _ ≤ 7301442; omega⟩) hS (fun q _ h => h.elim) (fun q h => h.elim) (fun r161_5 u t H1 locs ht hvm hw hB hz1 hk1 hS => ?_)
    have hP := hP.ro hk1
    generalize H1 = H at hP hS ⊢
    subst hw
    have hb9_161 := bl_lt (y9 >>> (11 &&& 31)) (n := 46) (by decide)
    refine lv_bipush (v := 30) hx hb dL_law_164 (by decide) ?_
    refine lv_isub hx hb dL_law_166 ?_
    have hw9 : ¬ wthF (nI ((bl (y9 >>> (3 &&& 31)) 2) * (bl (y9 >>> (4 &&& 31)) 151))) (nI (bl (y9 >>> (7 &&& 31)) 121)) (nI (bl (y9 >>> (9 &&& 31)) 4)) (nI (bl (y9 >>> (11 &&& 31)) 46) - 30) = 0 := wth_ok (snow_ok (bl_lt _ (by decide)) (bl_lt _ (by decide))) (Nat.le_of_lt_succ (bl_lt _ (by decide))) (bl_lt _ (by decide)) (bl_lt _ (by decide))
    have hDc := hDD S zs rn dy bn cn tn
    have hFc := fr_free hDc hS hA
    refine va_calli (va_runV (As := [.int (nI r), .int (nI ((bl (y9 >>> (3 &&& 31)) 2) * (bl (y9 >>> (4 &&& 31)) 151))), .int (nI (bl (y9 >>> (7 &&& 31)) 121)), .int (nI (bl (y9 >>> (9 &&& 31)) 4)), .int ((nI (bl (y9 >>> (11 &&& 31)) 46)) - 30)]) (rest := []) ⟨hx, hb, hml, hown, hts⟩ (n_weather l hlt E ad S zs rn dy bn cn tn r (nI ((bl (y9 >>> (3 &&& 31)) 2) * (bl (y9 >>> (4 &&& 31)) 151))) (nI (bl (y9 >>> (7 &&& 31)) 121)) (nI (bl (y9 >>> (9 &&& 31)) 4)) ((nI (bl (y9 >>> (11 &&& 31)) 46)) - 30) H.size (by first | omega | assumption) (by first | omega | assumption) (by first | omega | assumption) (hw9)) (cwV 5 hts gL_law_X4_weather rfl rfl rfl (by decide +kernel) ⟨Nat.le_of_ble_eq_true rfl, Nat.le_of_ble_eq_true rfl⟩) ⟨fb_Y, va_recv hE.1 hP (ci := 4) (q0 := 0) rfl rfl, fun U hU hW => ⟨rfl, by rw [hU], by rw [hU]; exact hP, hDc.weaken (fun _ _ _ _ => trivial), hE.warm hW, hU9.to hS hFc hU hW⟩⟩ rfl rfl hl.1 rfl (lv_room (Nat.le_of_ble_eq_true rfl)) dL_law_167 ⟨by show _ ≤ 600086; omega, by show _ ≤ 7301442; omega⟩) hS (fun q _ h => hFc q h) hFc (fun r167 u t H1 locs ht hvm hw hB hz1 hk1 hS => ?_)
    rw [ht] at hB
    have hP : va_P E.1 vwCl (dC E ad (va_up S (2 + 2 * r) (fF 1 (nI ((bl (y9 >>> (3 &&& 31)) 2) * (bl (y9 >>> (4 &&& 31)) 151))) (nI (bl (y9 >>> (7 &&& 31)) 121)) (nI (bl (y9 >>> (9 &&& 31)) 4)) ((nI (bl (y9 >>> (11 &&& 31)) 46)) - 30))) zs rn dy bn cn tn) H1 := hB
    clear hDc hFc
    generalize H1 = H at hP hS ⊢
    refine lv_pop hx hb dL_law_170 rfl ?_
    have hST9 : ST (va_up S (2 + 2 * r) (fF 1 (nI ((bl (y9 >>> (3 &&& 31)) 2) * (bl (y9 >>> (4 &&& 31)) 151))) (nI (bl (y9 >>> (7 &&& 31)) 121)) (nI (bl (y9 >>> (9 &&& 31)) 4)) ((nI (bl (y9 >>> (11 &&& 31)) 46)) - 30))) zs rn dy := hST.weather (by omega) hw9
    have hFK9 : FK ((va_up S (2 + 2 * r) (fF 1 (nI ((bl (y9 >>> (3 &&& 31)) 2) * (bl (y9 >>> (4 &&& 31)) 151))) (nI (bl (y9 >>> (7 &&& 31)) 121)) (nI (bl (y9 >>> (9 &&& 31)) 4)) ((nI (bl (y9 >>> (11 &&& 31)) 46)) - 30))) 18) zs rn t4 t5 := by rw [va_up_ne _ _ (by omega)]; exact hFK
    refine lw_see l hlt hL C0 hE hU9 hDD hST9 hFK9 h18 hrr hcn (cl := cl + 2) (sl := sl + 12) (by omega) (by omega) (fun S cn H locs ls hST hFK hcn hP hS hl => ?_) hP hS (lv_sub hl [1, 2, 3, 4, 5, 6, 7, 8, 9, 0] rfl)
    refine W.widen (k := cl + 608) (n := sl + 3648) (by omega) (by omega) ?_
    exact K _ _ _ _ _ hST hFK hcn hP hS hl
set_option maxHeartbeats 4000000 in
set_option maxRecDepth 100000 in
/-- all regions of a day -/
theorem lw_regs {p : Program} {e : Env} {s : State} {m : MethodId} {below : List Frame} {meth : Method} {c : Code} (l : Launch) (hlt : l.stackTraces = false) {b L : Nat} {xs : Nat → Int32} (hL : L ≤ 260) (C0 : lw_At p s m meth c b L xs) {E : ev_T} {ad : Nat → Nat} (hE : ev_U E s) (hU9 : ex_U (fun q : Nat => s.heap.size ≤ q) s s.heap) (hDD : ∀ S zs rn dy bn cn tn, va_D (fun q : Nat => s.heap.size ≤ q) (dC E ad S zs rn dy bn cn tn)) {zs : Nat → Nat} {rn dy bn tn : Nat} {t3 t4 t5 t7 : Int32} (h18 : dy < 18) {cl sl : Nat} (hcl : cl + 2432 ≤ 600086) (hsl : sl + 14592 ≤ 7301442)
    (K : ∀ (S : Nat → Nat → Int32) (cn : Nat) (H : Heap) (locs : List Loc) (ls : Array Slot), ST S zs rn dy → FK (S 18) zs rn t4 t5 → cn ≤ 4 * dy + 4 → va_P E.1 vwCl (dC E ad S zs rn dy bn cn tn) H → va_S (fun q : Nat => s.heap.size ≤ q) s.heap H locs → lv_has ls 17 [(0, .ref b), (1, .ref (ad 0)), (2, .int (nI rn)), (3, .int t3), (4, .int t4), (5, .int t5), (6, .int (nI dy)), (7, .int t7)] → W p l e room_1 s m #[Value.ref b] below meth c H locs (cl + 2432) (sl + 14592) (lw_Z below #[Value.ref b] s) (F0 m 470 ls [])) : ∀ (n r : Nat) (S : Nat → Nat → Int32) (cn : Nat), r ≤ rn → rn < n + r → ST S zs rn dy → FK (S 18) zs rn t4 t5 → cn ≤ 4 * dy + r → ∀ (H : Heap) (locs : List Loc) (ls : Array Slot), va_P E.1 vwCl (dC E ad S zs rn dy bn cn tn) H → va_S (fun q : Nat => s.heap.size ≤ q) s.heap H locs → lv_has ls 17 [(0, .ref b), (1, .ref (ad 0)), (2, .int (nI rn)), (3, .int t3), (4, .int t4), (5, .int t5), (6, .int (nI dy)), (7, .int t7), (8, .int (nI r))] → W p l e room_1 s m #[Value.ref b] below meth c H locs (cl + 608 * r) (sl + 3648 * r) (lw_Z below #[Value.ref b] s) (F0 m 87 ls []) := by
  obtain ⟨hx, hb, hr, hml, hown, hts0, hX, hbl, hlocks, hgv⟩ := id C0
  have hts : ∀ w ∈ wsL_law, w.before #[Value.ref b] s = true := fun w h => hts0 w (wsL_law_in w h)
  have hown : s.vm.findClass RL = some m.cls := hown
  have hA : ∀ q : Nat, s.heap.size ≤ q → (fun q : Nat => s.heap.size ≤ q) q := fun _ h => h
  have hbA : ¬ (fun q : Nat => s.heap.size ≤ q) b := Nat.not_le.mpr hbl
  intro n
  induction n with
  | zero => intro r S cn h1 h2; exact absurd h2 (by omega)
  | succ n ih =>
    intro r S cn hrr hn9 hST hFK hcn H locs ls hP hS hl
    have hrn4 := hST.1
    refine lv_iload hx hb dL_law_87 (lv_at hl 8 rfl) ?_
    refine lv_iload_n hx hb dL_law_89 rfl (lv_at hl 2 rfl) ?_
    refine mz_geN hx hb r rn (tgt := 470) dL_law_90 (by decide) (by omega) (by omega) (fun c_90 => ?_) (fun c_90 => ?_)
    · have hq9 : r = rn := by omega
      subst hq9
      refine W.widen (k := cl + 2432) (n := sl + 14592) (by omega) (by omega) ?_
      exact K _ _ _ _ _ hST hFK (by omega) hP hS (lv_sub hl [0, 1, 2, 3, 4, 5, 6, 7] rfl)
    · refine lw_wea l hlt hL C0 hE hU9 hDD hST hFK h18 (by omega) hcn (cl := cl + 608 * r) (sl := sl + 3648 * r) (by omega) (by omega) (fun S cn H locs ls hST hFK hcn hP hS hl => ?_) hP hS (lv_sub hl [0, 1, 2, 3, 4, 5, 6, 7, 8] rfl)
      refine mz_iinc (k := 8) (lv' := [(8, .int (nI (r + 1))), (0, .ref b), (1, .ref (ad 0)), (2, .int (nI rn)), (3, .int t3), (4, .int t4), (5, .int t5), (6, .int (nI dy)), (7, .int t7)]) hx hb r 1 dL_law_464 hl rfl (by decide) rfl (fun ls hl => ?_)
      refine lv_goto (tgt := 87) hx hb dL_law_467 (by decide) ?_
      refine W.widen (k := cl + 608 * (r + 1)) (n := sl + 3648 * (r + 1)) (by omega) (by omega) ?_
      exact ih (r + 1) S cn (by omega) (by omega) hST hFK (by omega) H locs ls hP hS (lv_sub hl [1, 2, 3, 4, 5, 6, 7, 8, 0] rfl)
