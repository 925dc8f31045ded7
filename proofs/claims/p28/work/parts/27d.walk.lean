set_option maxHeartbeats 4000000 in
set_option maxRecDepth 100000 in
/-- one day -/
theorem lw_day {p : Program} {e : Env} {s : State} {m : MethodId} {below : List Frame} {meth : Method} {c : Code} (l : Launch) (hlt : l.stackTraces = false) {b L : Nat} {xs : Nat → Int32} (hL : L ≤ 260) (C0 : lw_At p s m meth c b L xs) {E : ev_T} {ad : Nat → Nat} (hE : ev_U E s) (hU9 : ex_U (fun q : Nat => s.heap.size ≤ q) s s.heap) (hDD : ∀ S zs rn dy bn cn tn, va_D (fun q : Nat => s.heap.size ≤ q) (dC E ad S zs rn dy bn cn tn)) {S : Nat → Nat → Int32} {zs : Nat → Nat} {rn dy bn cn tn : Nat} {t4 t5 : Int32} (hST : ST S zs rn dy) (hFK : FK (S 18) zs rn t4 t5) (h0 : zs dy = 0) (hcn : cn ≤ 4 * dy) (h18 : dy < 18) {cl sl : Nat} (hcl : cl + 2447 ≤ 600086) (hsl : sl + 14682 ≤ 7301442)
    (K : ∀ (S : Nat → Nat → Int32) (zs : Nat → Nat) (bn cn : Nat) (t4 t5 : Int32) (H : Heap) (locs : List Loc) (ls : Array Slot), ST S zs rn (dy + 1) → FK (S 18) zs rn t4 t5 → zs (dy + 1) = 0 → cn ≤ 4 * (dy + 1) → va_P E.1 vwCl (dC E ad S zs rn (dy + 1) bn cn tn) H → va_S (fun q : Nat => s.heap.size ≤ q) s.heap H locs → lv_has ls 17 [(0, .ref b), (1, .ref (ad 0)), (2, .int (nI rn)), (3, .int (nI (SZ zs (dy + 1)))), (4, .int t4), (5, .int t5), (6, .int (nI (dy + 1)))] → W p l e room_1 s m #[Value.ref b] below meth c H locs (cl + 2447) (sl + 14682) (lw_Z below #[Value.ref b] s) (F0 m 49 ls [])) {H : Heap} {locs : List Loc} {ls : Array Slot} (hP : va_P E.1 vwCl (dC E ad S zs rn dy bn cn tn) H) (hS : va_S (fun q : Nat => s.heap.size ≤ q) s.heap H locs) (hl : lv_has ls 17 [(0, .ref b), (1, .ref (ad 0)), (2, .int (nI rn)), (3, .int (nI (SZ zs dy))), (4, .int t4), (5, .int t5), (6, .int (nI dy))]) : W p l e room_1 s m #[Value.ref b] below meth c H locs cl sl (lw_Z below #[Value.ref b] s) (F0 m 49 ls []) := by
  obtain ⟨hx, hb, hr, hml, hown, hts0, hX, hbl, hlocks, hgv⟩ := id C0
  have hts : ∀ w ∈ wsL_law, w.before #[Value.ref b] s = true := fun w h => hts0 w (wsL_law_in w h)
  have hown : s.vm.findClass RL = some m.cls := hown
  have hA : ∀ q : Nat, s.heap.size ≤ q → (fun q : Nat => s.heap.size ≤ q) q := fun _ h => h
  have hbA : ¬ (fun q : Nat => s.heap.size ≤ q) b := Nat.not_le.mpr hbl
  have hrn4 := hST.1
  refine lv_iload hx hb dL_law_49 (lv_at hl 6 rfl) ?_
  refine lv_bipush (v := 18) hx hb dL_law_51 (by decide) ?_
  refine mz_geN hx hb dy 18 (tgt := 639) dL_law_53 (by decide) (by omega) (by omega) (fun c_53 => ?_) (fun c_53 => ?_)
  · exact absurd c_53 (by omega)
  · refine lv_aload_n hx hb dL_law_56 rfl (lv_at hl 0 rfl) ?_
    refine lv_iconst (v := 1) hx hb dL_law_57 (by decide) ?_
    refine lv_iload hx hb dL_law_58 (lv_at hl 6 rfl) ?_
    refine lv_bipush (v := 6) hx hb dL_law_60 (by decide) ?_
    refine mz_remN hx hb dy 6 (by omega) (by omega) (by omega) dL_law_62 ?_
    refine mz_addN hx hb 1 (dy % 6) dL_law_63 ?_
    refine va_calli (va_runS (As := [.ref b, .int (nI (1 + (dy % 6)))]) (rest := []) ⟨hx, hb, hml, hown, hts⟩ (kL_cell l E b L xs (1 + (dy % 6)) hL (by omega)) (va_cwS 2 hts gL_law_L_cell rfl rfl rfl (by decide +kernel) ⟨Nat.le_of_ble_eq_true rfl, Nat.le_of_ble_eq_true rfl⟩) ⟨(fun a U g mk q => ⟨q.1, va_X.moved (u := U) (U := U.calling g mk a) (Vm.Alike.refl U.vm) q.2.1, q.2.2⟩), fun U hU hW => ⟨rfl, by rw [hU]; exact (hX.kept (hS.2.1 b hbl hbA)).moved hW.alike, by rw [hU]; exact Nat.lt_of_lt_of_le hbl hS.1⟩⟩ rfl rfl hl.1 rfl (lv_room (Nat.le_of_ble_eq_true rfl)) dL_law_64 ⟨by show _ ≤ 600086; omega, by show _ ≤ 7301442; omega⟩) hS (fun q _ h => h.elim) (fun q h => h.elim) (fun r64 u t H1 locs ht hvm hw hB hz1 hk1 hS => ?_)
    have hP := hP.ro hk1
    generalize H1 = H at hP hS ⊢
    refine lv_iload hx hb dL_law_67 (lv_at hl 6 rfl) ?_
    refine lv_bipush (v := 6) hx hb dL_law_69 (by decide) ?_
    refine mz_divN hx hb dy 6 (by omega) (by omega) (by omega) dL_law_71 ?_
    refine lv_iconst (v := 5) hx hb dL_law_72 (by decide) ?_
    refine mz_mulN hx hb (dy / 6) 5 dL_law_73 ?_
    refine lv_ishr hx hb dL_law_74 ?_
    refine lv_iload hx hb dL_law_75 (lv_at hl 6 rfl) ?_
    refine lv_sipush (v := 911) hx hb dL_law_77 (by decide) ?_
    refine mz_mulN hx hb dy 911 dL_law_80 ?_
    refine lv_ixor hx hb dL_law_81 ?_
    refine lv_istore (lv' := [(7, .int ((r64 >>> ((nI ((dy / 6) * 5)) &&& 31)) ^^^ (nI (dy * 911)))), (0, .ref b), (1, .ref (ad 0)), (2, .int (nI rn)), (3, .int (nI (SZ zs dy))), (4, .int t4), (5, .int t5), (6, .int (nI dy))]) hx hb dL_law_82 hl (by decide) rfl (fun ls hl => ?_)
    refine lv_iconst (v := 0) hx hb dL_law_84 (by decide) ?_
    refine lv_istore (lv' := [(8, .int 0), (7, .int ((r64 >>> ((nI ((dy / 6) * 5)) &&& 31)) ^^^ (nI (dy * 911)))), (0, .ref b), (1, .ref (ad 0)), (2, .int (nI rn)), (3, .int (nI (SZ zs dy))), (4, .int t4), (5, .int t5), (6, .int (nI dy))]) hx hb dL_law_85 hl (by decide) rfl (fun ls hl => ?_)
    obtain ⟨x9, hx9⟩ : ∃ z, z = (r64 >>> ((nI ((dy / 6) * 5)) &&& 31)) ^^^ (nI (dy * 911)) := ⟨_, rfl⟩
    have hl : lv_has ls 17 [(8, .int 0), (7, .int x9), (0, .ref b), (1, .ref (ad 0)), (2, .int (nI rn)), (3, .int (nI (SZ zs dy))), (4, .int t4), (5, .int t5), (6, .int (nI dy))] := by rw [hx9]; exact hl
    refine lw_regs l hlt hL C0 hE hU9 hDD h18 (cl := cl) (sl := sl) (by omega) (by omega) (fun S cn H locs ls hST hFK hcn hP hS hl => ?_) (rn + 1) 0 S cn (Nat.zero_le _) (by omega) hST hFK (by omega) _ _ _ hP hS (lv_sub hl [2, 3, 4, 5, 6, 7, 8, 1, 0] rfl)
    refine lw_pub l hlt hL C0 hE hU9 hDD hST hFK h18 h0 (cl := cl + 2432) (sl := sl + 14592) (by omega) (by omega) (fun S zs bn t4 t5 H locs ls hST hFK hP hS hl => ?_) hP hS hl
    refine lw_chk l hlt hL C0 hE hU9 hDD hST hFK h18 (cl := cl + 2432 + 8) (sl := sl + 14592 + 48) (by omega) (by omega) (fun H locs ls hP hS hl => ?_) hP hS hl
    refine lw_end l hlt hL C0 hE hU9 hDD hST hFK h18 (cl := cl + 2432 + 8 + 6) (sl := sl + 14592 + 48 + 36) (by omega) (by omega) (fun S H locs ls hST2 hFK hP hS hl => ?_) hP hS hl
    refine W.widen (k := cl + 2447) (n := sl + 14682) (by omega) (by omega) ?_
    exact K _ _ _ _ _ _ _ _ _ hST2 hFK (hST.2.2.2.2.1 _ (by omega)) (by omega) hP hS hl
set_option maxHeartbeats 4000000 in
set_option maxRecDepth 100000 in
/-- the eighteen days -/
theorem lw_days {p : Program} {e : Env} {s : State} {m : MethodId} {below : List Frame} {meth : Method} {c : Code} (l : Launch) (hlt : l.stackTraces = false) {b L : Nat} {xs : Nat → Int32} (hL : L ≤ 260) (C0 : lw_At p s m meth c b L xs) {E : ev_T} {ad : Nat → Nat} (hE : ev_U E s) (hU9 : ex_U (fun q : Nat => s.heap.size ≤ q) s s.heap) (hDD : ∀ S zs rn dy bn cn tn, va_D (fun q : Nat => s.heap.size ≤ q) (dC E ad S zs rn dy bn cn tn)) {rn tn : Nat} {cl sl : Nat} (hcl : cl + 45000 ≤ 600086) (hsl : sl + 270000 ≤ 7301442)
    (K : ∀ (S : Nat → Nat → Int32) (zs : Nat → Nat) (bn cn : Nat) (t3 t4 t5 : Int32) (H : Heap) (locs : List Loc) (ls : Array Slot), ST S zs rn 18 → cn ≤ 72 → va_P E.1 vwCl (dC E ad S zs rn 18 bn cn tn) H → va_S (fun q : Nat => s.heap.size ≤ q) s.heap H locs → lv_has ls 17 [(0, .ref b), (1, .ref (ad 0)), (2, .int (nI rn)), (3, .int t3), (4, .int t4), (5, .int t5)] → W p l e room_1 s m #[Value.ref b] below meth c H locs (cl + 45000) (sl + 270000) (lw_Z below #[Value.ref b] s) (F0 m 639 ls [])) : ∀ (n dy : Nat) (S : Nat → Nat → Int32) (zs : Nat → Nat) (bn cn : Nat) (t4 t5 : Int32), dy ≤ 18 → 18 < n + dy → ST S zs rn dy → FK (S 18) zs rn t4 t5 → zs dy = 0 → cn ≤ 4 * dy → ∀ (H : Heap) (locs : List Loc) (ls : Array Slot), va_P E.1 vwCl (dC E ad S zs rn dy bn cn tn) H → va_S (fun q : Nat => s.heap.size ≤ q) s.heap H locs → lv_has ls 17 [(0, .ref b), (1, .ref (ad 0)), (2, .int (nI rn)), (3, .int (nI (SZ zs dy))), (4, .int t4), (5, .int t5), (6, .int (nI dy))] → W p l e room_1 s m #[Value.ref b] below meth c H locs (cl + 2447 * dy) (sl + 14682 * dy) (lw_Z below #[Value.ref b] s) (F0 m 49 ls []) := by
  obtain ⟨hx, hb, hr, hml, hown, hts0, hX, hbl, hlocks, hgv⟩ := id C0
  have hts : ∀ w ∈ wsL_law, w.before #[Value.ref b] s = true := fun w h => hts0 w (wsL_law_in w h)
  have hown : s.vm.findClass RL = some m.cls := hown
  have hA : ∀ q : Nat, s.heap.size ≤ q → (fun q : Nat => s.heap.size ≤ q) q := fun _ h => h
  have hbA : ¬ (fun q : Nat => s.heap.size ≤ q) b := Nat.not_le.mpr hbl
  intro n
  induction n with
  | zero => intro dy S zs bn cn t4 t5 h1 h2; exact absurd h2 (by omega)
  | succ n ih =>
    intro dy S zs bn cn t4 t5 hdd hn9 hST hFK h0 hcn H locs ls hP hS hl
    have hl0 := hl
    have hrn4 := hST.1
    by_cases hlt9 : dy < 18
    · refine lw_day l hlt hL C0 hE hU9 hDD hST hFK h0 hcn (by omega) (cl := cl + 2447 * dy) (sl := sl + 14682 * dy) (by omega) (by omega) (fun S zs bn cn t4 t5 H locs ls hST hFK h0 hcn hP hS hl => ?_) hP hS hl0
      refine W.widen (k := cl + 2447 * (dy + 1)) (n := sl + 14682 * (dy + 1)) (by omega) (by omega) ?_
      exact ih (dy + 1) S zs bn cn t4 t5 (by omega) (by omega) hST hFK h0 hcn H locs ls hP hS hl
    · refine lv_iload hx hb dL_law_49 (lv_at hl 6 rfl) ?_
      refine lv_bipush (v := 18) hx hb dL_law_51 (by decide) ?_
      refine mz_geN hx hb dy 18 (tgt := 639) dL_law_53 (by decide) (by omega) (by omega) (fun c_53 => ?_) (fun c_53 => ?_)
      · refine W.widen (k := cl + 45000) (n := sl + 270000) (by omega) (by omega) ?_
        have hq9 : dy = 18 := by omega
        subst hq9
        exact K _ _ _ _ _ _ _ _ _ _ hST (by omega) hP hS (lv_sub hl [0, 1, 2, 3, 4, 5] rfl)
      · exact absurd c_53 (by omega)
set_option maxHeartbeats 4000000 in
set_option maxRecDepth 100000 in
/-- the shares in the core, and the end -/
theorem lw_fin {p : Program} {e : Env} {s : State} {m : MethodId} {below : List Frame} {meth : Method} {c : Code} (l : Launch) (hlt : l.stackTraces = false) {b L : Nat} {xs : Nat → Int32} (hL : L ≤ 260) (C0 : lw_At p s m meth c b L xs) {E : ev_T} {ad : Nat → Nat} (hE : ev_U E s) (hU9 : ex_U (fun q : Nat => s.heap.size ≤ q) s s.heap) (hDD : ∀ S zs rn dy bn cn tn, va_D (fun q : Nat => s.heap.size ≤ q) (dC E ad S zs rn dy bn cn tn)) {S : Nat → Nat → Int32} {zs : Nat → Nat} {rn bn cn tn : Nat} {t3 t4 t5 : Int32} (hST : ST S zs rn 18) (hcn : cn ≤ 72) {cl sl : Nat} (hcl : cl + 8 ≤ 600086) (hsl : sl + 48 ≤ 7301442) {H : Heap} {locs : List Loc} {ls : Array Slot} (hP : va_P E.1 vwCl (dC E ad S zs rn 18 bn cn tn) H) (hS : va_S (fun q : Nat => s.heap.size ≤ q) s.heap H locs) (hl : lv_has ls 17 [(0, .ref b), (1, .ref (ad 0)), (2, .int (nI rn)), (3, .int t3), (4, .int t4), (5, .int t5)]) : W p l e room_1 s m #[Value.ref b] below meth c H locs cl sl (lw_Z below #[Value.ref b] s) (F0 m 639 ls []) := by
  obtain ⟨hx, hb, hr, hml, hown, hts0, hX, hbl, hlocks, hgv⟩ := id C0
  have hts : ∀ w ∈ wsL_law, w.before #[Value.ref b] s = true := fun w h => hts0 w (wsL_law_in w h)
  have hown : s.vm.findClass RL = some m.cls := hown
  have hA : ∀ q : Nat, s.heap.size ≤ q → (fun q : Nat => s.heap.size ≤ q) q := fun _ h => h
  have hbA : ¬ (fun q : Nat => s.heap.size ≤ q) b := Nat.not_le.mpr hbl
  have hrn4 := hST.1
  have hz := hST.hz6
  refine lv_iconst (v := 0) hx hb dL_law_639 (by decide) ?_
  refine lv_istore (lv' := [(6, .int 0), (0, .ref b), (1, .ref (ad 0)), (2, .int (nI rn)), (3, .int t3), (4, .int t4), (5, .int t5)]) hx hb dL_law_640 hl (by decide) rfl (fun ls hl => ?_)
  have KL642 : ∀ (n642 ir : Nat), ir ≤ rn → rn < n642 + ir → ∀ (H : Heap) (locs : List Loc) (ls : Array Slot), va_P E.1 vwCl (dC E ad S zs rn 18 bn cn tn) H → va_S (fun q : Nat => s.heap.size ≤ q) s.heap H locs → lv_has ls 17 [(6, .int (nI ir)), (0, .ref b), (1, .ref (ad 0)), (2, .int (nI rn)), (3, .int t3), (4, .int t4), (5, .int t5)] → W p l e room_1 s m #[Value.ref b] below meth c H locs (cl + 2 * ir) (sl + 12 * ir) (lw_Z below #[Value.ref b] s) (F0 m 642 ls []) := by
    intro n642
    induction n642 with
    | zero => intro ir h1 h2; exact absurd h2 (by omega)
    | succ n642 ih642 =>
      intro ir hi642 hn642 H locs ls hP hS hl
      refine lv_iload hx hb dL_law_642 (lv_at hl 0 rfl) ?_
      refine lv_iload_n hx hb dL_law_644 rfl (lv_at hl 3 rfl) ?_
      refine mz_geN hx hb ir rn (tgt := 678) dL_law_645 (by decide) (by omega) (by omega) (fun c_645 => ?_) (fun c_645 => ?_)
      · have hq99 : ir = rn := by omega
        subst ir
        refine lv_aload_n hx hb dL_law_678 rfl (lv_at hl 2 rfl) ?_
        refine va_calli (va_runV (As := []) (rest := []) ⟨hx, hb, hml, hown, hts⟩ (kX4_day l E ad S zs rn 18 bn cn tn (by first | omega | assumption) (by first | omega | assumption)) (cwV 0 hts gL_law_X4_day rfl rfl rfl (by decide +kernel) ⟨Nat.le_of_ble_eq_true rfl, Nat.le_of_ble_eq_true rfl⟩) ⟨fb_R, va_recv hE.1 hP (ci := 4) (q0 := 0) rfl rfl, fun U hU hW => ⟨rfl, by rw [hU]; exact hP, hE.warm hW⟩⟩ rfl rfl hl.1 rfl (lv_room (Nat.le_of_ble_eq_true rfl)) dL_law_679 ⟨by show _ ≤ 600086; omega, by show _ ≤ 7301442; omega⟩) hS (fun q _ h => h.elim) (fun q h => h.elim) (fun r679 u t H1 locs ht hvm hw hB hz1 hk1 hS => ?_)
        have hP := hP.ro hk1
        generalize H1 = H at hP hS ⊢
        subst hw
        refine lv_bipush (v := 18) hx hb dL_law_682 (by decide) ?_
        refine mz_neN hx hb 18 18 (tgt := 691) dL_law_684 (by decide) (by omega) (by omega) (fun c_684 => ?_) (fun c_684 => ?_)
        · exact absurd c_684 (by decide)
        · refine lv_iconst (v := 1) hx hb dL_law_687 (by decide) ?_
          refine lv_goto (tgt := 692) hx hb dL_law_688 (by decide) ?_
          refine va_forget (fun q hq => hS.2.2 q hq) ?_
          refine W.widen (k := 600086) (n := 7301442) (by omega) (by omega) ?_
          refine W.base ?_
          exact lw_ret (Drawn.sameBut.refl s.drawn lw_cs) hx hb hr hlocks dL_law_692
      · refine lv_aload_n hx hb dL_law_648 rfl (lv_at hl 2 rfl) ?_
        refine lv_iload hx hb dL_law_649 (lv_at hl 0 rfl) ?_
        refine va_calld (va_runV (As := [.int (nI ir)]) (rest := []) ⟨hx, hb, hml, hown, hts⟩ (n_inCore l hlt E ad S zs rn 18 bn cn tn ir (by first | omega | assumption) (by first | omega | assumption) (hz) (by first | omega | assumption) (by first | omega | assumption)) (cwV 1 hts gL_law_X4_inCore rfl rfl rfl (by decide +kernel) ⟨Nat.le_of_ble_eq_true rfl, Nat.le_of_ble_eq_true rfl⟩) ⟨fb_X, va_recv hE.1 hP (ci := 4) (q0 := 0) rfl rfl, fun U hU hW => ⟨rfl, by rw [hU]; exact hP, hE.warm hW, hU9.to hS (fun _ h => h.elim) hU hW⟩⟩ rfl rfl hl.1 rfl (lv_room (Nat.le_of_ble_eq_true rfl)) dL_law_651 ⟨by show _ ≤ 600086; omega, by show _ ≤ 7301442; omega⟩) hS (fun q _ h => h.elim) (fun q h => h.elim) (fun r651 u t H1 locs ht hvm hw hB hz1 hk1 hS => ?_)
        have hP := hP.ro hk1
        generalize H1 = H at hP hS ⊢
        subst hw
        refine lv_dconst0 hx hb dL_law_654 ?_
        refine lv_dcmp hx hb dL_law_655 ?_
        refine lv_if_lt (tgt := 670) hx hb dL_law_656 (by decide) (fun c_656 => ?_) (fun c_656 => ?_)
        · exact absurd c_656 (ic_rng S zs ir cn (by omega)).1
        · refine lv_aload_n hx hb dL_law_659 rfl (lv_at hl 2 rfl) ?_
          refine lv_iload hx hb dL_law_660 (lv_at hl 0 rfl) ?_
          refine va_calld (va_runV (As := [.int (nI ir)]) (rest := []) ⟨hx, hb, hml, hown, hts⟩ (n_inCore l hlt E ad S zs rn 18 bn cn tn ir (by first | omega | assumption) (by first | omega | assumption) (hz) (by first | omega | assumption) (by first | omega | assumption)) (cwV 1 hts gL_law_X4_inCore rfl rfl rfl (by decide +kernel) ⟨Nat.le_of_ble_eq_true rfl, Nat.le_of_ble_eq_true rfl⟩) ⟨fb_X, va_recv hE.1 hP (ci := 4) (q0 := 0) rfl rfl, fun U hU hW => ⟨rfl, by rw [hU]; exact hP, hE.warm hW, hU9.to hS (fun _ h => h.elim) hU hW⟩⟩ rfl rfl hl.1 rfl (lv_room (Nat.le_of_ble_eq_true rfl)) dL_law_662 ⟨by show _ ≤ 600086; omega, by show _ ≤ 7301442; omega⟩) hS (fun q _ h => h.elim) (fun q h => h.elim) (fun r662 u t H1 locs ht hvm hw hB hz1 hk1 hS => ?_)
          have hP := hP.ro hk1
          generalize H1 = H at hP hS ⊢
          subst hw
          refine lv_dconst1 hx hb dL_law_665 ?_
          refine lv_dcmp hx hb dL_law_666 ?_
          refine mz_ifle (tgt := 672) hx hb dL_law_667 (by decide) (fun c_667 => ?_) (fun c_667 => ?_)
          · refine mz_iinc (k := 0) (lv' := [(6, .int (nI (ir + 1))), (0, .ref b), (1, .ref (ad 0)), (2, .int (nI rn)), (3, .int t3), (4, .int t4), (5, .int t5)]) hx hb ir 1 dL_law_672 hl rfl (by decide) rfl (fun ls hl => ?_)
            refine lv_goto (tgt := 642) hx hb dL_law_675 (by decide) ?_
            refine W.widen (k := cl + 2 * (ir + 1)) (n := sl + 12 * (ir + 1)) (by omega) (by omega) ?_
            exact ih642 (ir + 1) (by omega) (by omega) _ _ _ hP hS (lv_sub hl [0, 1, 2, 3, 4, 5, 6] rfl)
          · exact absurd c_667 (ic_rng S zs ir cn (by omega)).2
  refine W.widen (k := cl + 2 * 0) (n := sl + 12 * 0) (by omega) (by omega) ?_
  exact KL642 (rn + 1 - 0) 0 (by omega) (by omega) _ _ _ hP hS (lv_sub hl [0, 1, 2, 3, 4, 5, 6] rfl)
set_option maxHeartbeats 4000000 in
set_option maxRecDepth 100000 in
/-- the regions, the days, the end -/
theorem lw_add {p : Program} {e : Env} {s : State} {m : MethodId} {below : List Frame} {meth : Method} {c : Code} (l : Launch) (hlt : l.stackTraces = false) {b L : Nat} {xs : Nat → Int32} (hL : L ≤ 260) (C0 : lw_At p s m meth c b L xs) {E : ev_T} {ad : Nat → Nat} (hE : ev_U E s) (hU9 : ex_U (fun q : Nat => s.heap.size ≤ q) s s.heap) (hDD : ∀ S zs rn dy bn cn tn, va_D (fun q : Nat => s.heap.size ≤ q) (dC E ad S zs rn dy bn cn tn)) {rg : Nat} (h1 : 1 ≤ rg) (h4 : rg ≤ 4) {cl sl : Nat} (hcl : cl + 46000 ≤ 600086) (hsl : sl + 280000 ≤ 7301442) {H : Heap} {locs : List Loc} {ls : Array Slot} (hP : va_P E.1 vwCl (dC E ad S0 (fun _ => 0) 0 0 0 0 0) H) (hS : va_S (fun q : Nat => s.heap.size ≤ q) s.heap H locs) (hl : lv_has ls 17 [(0, .ref b), (1, .ref (ad 0)), (2, .int (nI rg))]) : W p l e room_1 s m #[Value.ref b] below meth c H locs cl sl (lw_Z below #[Value.ref b] s) (F0 m 20 ls []) := by
  obtain ⟨hx, hb, hr, hml, hown, hts0, hX, hbl, hlocks, hgv⟩ := id C0
  have hts : ∀ w ∈ wsL_law, w.before #[Value.ref b] s = true := fun w h => hts0 w (wsL_law_in w h)
  have hown : s.vm.findClass RL = some m.cls := hown
  have hA : ∀ q : Nat, s.heap.size ≤ q → (fun q : Nat => s.heap.size ≤ q) q := fun _ h => h
  have hbA : ¬ (fun q : Nat => s.heap.size ≤ q) b := Nat.not_le.mpr hbl
  refine lv_iconst (v := 0) hx hb dL_law_20 (by decide) ?_
  refine lv_istore_n (lv' := [(3, .int 0), (0, .ref b), (1, .ref (ad 0)), (2, .int (nI rg))]) hx hb dL_law_21 rfl hl (by decide) rfl (fun ls hl => ?_)
  have KL22 : ∀ (n22 ir : Nat), ir ≤ rg → rg < n22 + ir → ∀ (H : Heap) (locs : List Loc) (ls : Array Slot), va_P E.1 vwCl (dC E ad S0 (fun _ => 0) ir 0 0 0 0) H → va_S (fun q : Nat => s.heap.size ≤ q) s.heap H locs → lv_has ls 17 [(3, .int (nI ir)), (0, .ref b), (1, .ref (ad 0)), (2, .int (nI rg))] → W p l e room_1 s m #[Value.ref b] below meth c H locs (cl + ir) (sl + 6 * ir) (lw_Z below #[Value.ref b] s) (F0 m 22 ls []) := by
    intro n22
    induction n22 with
    | zero => intro ir h1 h2; exact absurd h2 (by omega)
    | succ n22 ih22 =>
      intro ir hi22 hn22 H locs ls hP hS hl
      refine lv_iload_n hx hb dL_law_22 rfl (lv_at hl 0 rfl) ?_
      refine lv_iload_n hx hb dL_law_23 rfl (lv_at hl 3 rfl) ?_
      refine mz_geN hx hb ir rg (tgt := 38) dL_law_24 (by decide) (by omega) (by omega) (fun c_24 => ?_) (fun c_24 => ?_)
      · have hq99 : ir = rg := by omega
        subst ir
        refine lv_iconst (v := 0) hx hb dL_law_38 (by decide) ?_
        refine lv_istore_n (lv' := [(3, .int 0), (0, .ref b), (1, .ref (ad 0)), (2, .int (nI rg))]) hx hb dL_law_39 rfl hl (by decide) rfl (fun ls hl => ?_)
        refine lv_iconst (v := (-1)) hx hb dL_law_40 (by decide) ?_
        refine lv_istore (lv' := [(4, .int (-1)), (3, .int 0), (0, .ref b), (1, .ref (ad 0)), (2, .int (nI rg))]) hx hb dL_law_41 hl (by decide) rfl (fun ls hl => ?_)
        refine lv_iconst (v := 0) hx hb dL_law_43 (by decide) ?_
        refine lv_istore (lv' := [(5, .int 0), (4, .int (-1)), (3, .int 0), (0, .ref b), (1, .ref (ad 0)), (2, .int (nI rg))]) hx hb dL_law_44 hl (by decide) rfl (fun ls hl => ?_)
        refine lv_iconst (v := 0) hx hb dL_law_46 (by decide) ?_
        refine lv_istore (lv' := [(6, .int 0), (5, .int 0), (4, .int (-1)), (3, .int 0), (0, .ref b), (1, .ref (ad 0)), (2, .int (nI rg))]) hx hb dL_law_47 hl (by decide) rfl (fun ls hl => ?_)
        refine W.widen (k := cl + 4) (n := sl + 24) (by omega) (by omega) ?_
        refine lw_days l hlt hL C0 hE hU9 hDD (cl := cl + 4) (sl := sl + 24) (by omega) (by omega) (fun S zs bn cn t3 t4 t5 H locs ls hST hcn hP hS hl => lw_fin l hlt hL C0 hE hU9 hDD hST hcn (cl := cl + 4 + 45000) (sl := sl + 24 + 270000) (by omega) (by omega) hP hS hl) 19 0 S0 (fun _ => 0) 0 0 (-1) 0 (by omega) (by omega) (ST_0 (by omega) (by omega)) (Or.inl (by decide)) rfl (by omega) _ _ _ hP hS (lv_sub hl [4, 5, 6, 3, 2, 1, 0] rfl)
      · refine lv_aload_n hx hb dL_law_27 rfl (lv_at hl 2 rfl) ?_
        have hDc := hDD S0 (fun _ => 0) ir 0 0 0 0
        have hFc := fr_free hDc hS hA
        refine va_calli (va_runV (As := []) (rest := []) ⟨hx, hb, hml, hown, hts⟩ (n_addRegion l hlt E ad S0 (fun _ => 0) ir 0 0 0 0 H.size (by first | omega | assumption) (by first | omega | assumption) (by first | omega | assumption)) (cwV 0 hts gL_law_X4_addRegion rfl rfl rfl (by decide +kernel) ⟨Nat.le_of_ble_eq_true rfl, Nat.le_of_ble_eq_true rfl⟩) ⟨fb_Y, va_recv hE.1 hP (ci := 4) (q0 := 0) rfl rfl, fun U hU hW => ⟨rfl, by rw [hU], by rw [hU]; exact hP, hDc.weaken (fun _ _ _ _ => trivial), hE.warm hW, hU9.to hS hFc hU hW⟩⟩ rfl rfl hl.1 rfl (lv_room (Nat.le_of_ble_eq_true rfl)) dL_law_28 ⟨by show _ ≤ 600086; omega, by show _ ≤ 7301442; omega⟩) hS (fun q _ h => hFc q h) hFc (fun r28 u t H1 locs ht hvm hw hB hz1 hk1 hS => ?_)
        rw [ht] at hB
        have hP : va_P E.1 vwCl (dC E ad S0 (fun _ => 0) (ir + 1) 0 0 0 0) H1 := hB
        clear hDc hFc
        generalize H1 = H at hP hS ⊢
        refine lv_pop hx hb dL_law_31 rfl ?_
        refine mz_iinc (k := 0) (lv' := [(3, .int (nI (ir + 1))), (0, .ref b), (1, .ref (ad 0)), (2, .int (nI rg))]) hx hb ir 1 dL_law_32 hl rfl (by decide) rfl (fun ls hl => ?_)
        refine lv_goto (tgt := 22) hx hb dL_law_35 (by decide) ?_
        refine W.widen (k := cl + (ir + 1)) (n := sl + 6 * (ir + 1)) (by omega) (by omega) ?_
        exact ih22 (ir + 1) (by omega) (by omega) _ _ _ hP hS (lv_sub hl [0, 1, 2, 3] rfl)
  refine W.widen (k := cl + 0) (n := sl + 6 * 0) (by omega) (by omega) ?_
  exact KL22 (rg + 1 - 0) 0 (by omega) (by omega) _ _ _ hP hS (lv_sub hl [0, 1, 2, 3] rfl)
