/-! the environment at the start, the law's loop, the law -/
theorem arr_of {args : Array Value} {s : State} {ty : FieldType} (hno : ∀ C, ty ≠ .object C) (h : (Cond.arrayClass ty).before args s = true) : ∃ cA, ArrOfT s cA ty ∧ va_RA s cA ty := by
  obtain ⟨c, k, comp, h1, h2, h3⟩ := Cond.arrayClass_spec h
  refine ⟨c, fun n z => ⟨fun k h => (by cases h), k, h2, comp, h3⟩, ?_⟩
  cases ty with
  | object C => exact absurd rfl (hno C)
  | _ => exact h1
theorem arr_ofO {args : Array Value} {s : State} {C : String} (h : (Cond.arrayOver (.object C)).before args s = true) : ∃ cA, ArrOfT s cA (.object C) ∧ va_RA s cA (.object C) := by
  obtain ⟨comp, c, k, h1, -, h2, h3, h4⟩ := Cond.arrayOver_spec h
  exact ⟨c, fun n z => ⟨fun k h => (by cases h), k, h2, comp, h3⟩, k, comp, h2, h3, h1, h4⟩
theorem str_of {args : Array Value} {s : State} {own tx : String} {k : Nat} (h : (Cond.stringRef own k tx).before args s = true) : ∃ a, vk_R own k tx a s := by
  have hcur : ∃ cur, s.vm.findClass own = some cur := by
    have h1 := h
    simp only [Cond.before, Cond.holds, Cond.value] at h1
    cases hc : s.vm.findClass own with
    | none => simp [hc] at h1
    | some cur => exact ⟨cur, rfl⟩
  obtain ⟨cur, hcur⟩ := hcur
  obtain ⟨k9, cf, i, a, _, _, _, _, _, h6⟩ := Cond.stringRef_spec hcur h
  exact ⟨a, vk_R.of h h6⟩
theorem ev_N_in : ∀ w ∈ ev_N, w ∈ lw_tbl := by decide +kernel
theorem ev_N_on : ∀ w ∈ ev_N, w.onTables = true := by decide +kernel
theorem ev_X_in : ∀ w ∈ ev_X, w ∈ lw_tbl := by decide +kernel
theorem ev_S_in : ∀ q ∈ ev_S, Cond.stringRef RX4 q.1 q.2 ∈ lw_tbl := by decide +kernel
theorem ev_S_one : ∀ q ∈ ev_S, ∀ q' ∈ ev_S, q.1 = q'.1 → q = q' := by decide +kernel
theorem ev_C_in : ∀ q ∈ ev_C, Cond.not (.castable q.1 q.2) ∈ flatC (Jvm.Cond.and given_1 narrow_1) := by decide +kernel
theorem ev_str {s : State} (h : ∀ q ∈ ev_S, ∃ a, vk_R RX4 q.1 q.2 a s) : ∃ f : Nat → Nat, ∀ q ∈ ev_S, vk_R RX4 q.1 q.2 (f q.1) s := by
  have h1 : ∀ k : Nat, ∃ a, ∀ q ∈ ev_S, q.1 = k → vk_R RX4 q.1 q.2 a s := by
    intro k
    by_cases hk : ∃ q ∈ ev_S, q.1 = k
    · obtain ⟨q, hq, e⟩ := hk
      obtain ⟨a, ha⟩ := h q hq
      exact ⟨a, fun q' hq' e' => by rw [← ev_S_one q hq q' hq' (e.trans e'.symm)]; exact ha⟩
    · exact ⟨0, fun q hq e => absurd ⟨q, hq, e⟩ hk⟩
  exact ⟨fun k => Classical.choose (h1 k), fun q hq => Classical.choose_spec (h1 q.1) q hq rfl⟩
theorem ev_start {s : State} {b : Nat} (hts0 : ∀ w ∈ lw_tbl, w.before #[Value.ref b] s = true) (hgv : (Jvm.Cond.and given_1 narrow_1).before #[Value.ref b] s = true) : ∃ E : ev_T, ev_U E s := by
  obtain ⟨c0, i0, k0⟩ := u_known (C := RX0) (T := TX0) (N := 5) (n := 5) hts0 inX0 (hts0 (.instantiable RX0 5) (by decide +kernel))
  obtain ⟨c1, i1, k1⟩ := u_known (C := RX1) (T := TX1) (N := 3) (n := 3) hts0 inX1 (hts0 (.instantiable RX1 3) (by decide +kernel))
  obtain ⟨c2, i2, k2⟩ := u_known (C := RX2) (T := TX2) (N := 6) (n := 6) hts0 inX2 (hts0 (.instantiable RX2 6) (by decide +kernel))
  obtain ⟨c3, i3, k3⟩ := u_known (C := RX3) (T := TX3) (N := 3) (n := 3) hts0 inX3 (hts0 (.instantiable RX3 3) (by decide +kernel))
  obtain ⟨c4, i4, k4⟩ := u_known (C := RX4) (T := TX4) (N := 7) (n := 7) hts0 inX4 (hts0 (.instantiable RX4 7) (by decide +kernel))
  obtain ⟨c5, i5, k5⟩ := u_known (C := RX5) (T := TX5) (N := 13) (n := 13) hts0 inX5 (hts0 (.instantiable RX5 13) (by decide +kernel))
  obtain ⟨a0, p0⟩ := arr_of (ty := .int) (fun _ => by simp) (hts0 (.arrayClass .int) (by decide +kernel))
  obtain ⟨a1, p1⟩ := arr_of (ty := .boolean) (fun _ => by simp) (hts0 (.arrayClass .boolean) (by decide +kernel))
  obtain ⟨a3, p3⟩ := arr_of (ty := .long) (fun _ => by simp) (hts0 (.arrayClass .long) (by decide +kernel))
  obtain ⟨a4, p4⟩ := arr_of (ty := .double) (fun _ => by simp) (hts0 (.arrayClass .double) (by decide +kernel))
  obtain ⟨a2, p2⟩ := arr_ofO (C := RX2) (hts0 (.arrayOver (.object RX2)) (by decide +kernel))
  have hs := flat_of_before _ hgv
  obtain ⟨f, hf⟩ := ev_str (s := s) (fun q hq => str_of (hts0 _ (ev_S_in q hq)))
  refine ⟨((fun k => match k with | 0 => c0 | 1 => c1 | 2 => c2 | 3 => c3 | 4 => c4 | _ => c5, fun k => match k with | 0 => i0 | 1 => i1 | 2 => i2 | 3 => i3 | 4 => i4 | _ => i5), (fun k => match k with | 0 => a0 | 1 => a1 | 2 => a2 | 3 => a3 | _ => a4), f), ⟨fun k q hq => ?_, fun k q hq => ?_⟩, fun w hw => va_Nw.of (ev_N_on w hw) (hts0 w (ev_N_in w hw)), hf, fun w hw => va_Nw.of (ev_X_face w hw).2 (hts0 w (ev_X_in w hw)), fun q hq => va_Nc.of (hs _ (ev_C_in q hq))⟩
  · match k, hq with
    | 0, hq => cases hq; exact k0
    | 1, hq => cases hq; exact k1
    | 2, hq => cases hq; exact k2
    | 3, hq => cases hq; exact k3
    | 4, hq => cases hq; exact k4
    | 5, hq => cases hq; exact k5
    | k + 6, hq => simp [vwCl] at hq
  · match k, hq with
    | 0, hq => cases hq; exact p0
    | 1, hq => cases hq; exact p1
    | 2, hq => cases hq; exact p2
    | 3, hq => cases hq; exact p3
    | 4, hq => cases hq; exact p4
    | k + 5, hq => simp [ev_ty] at hq
theorem la_gt {i L : Nat} (hL : L ≤ 3072) (hi : i ≤ L) : (Int32.ofNat L - 6 < nI i) ↔ L < i + 6 := by
  have h1 : (Int32.ofNat L - 6).toInt = (L : Int) - 6 := pk_sub_toInt (a := L) (b := 6) (by omega) (by omega)
  rw [Int32.lt_iff_toInt_lt, h1, nI_toInt (by omega)]; omega
set_option maxHeartbeats 4000000 in
set_option maxRecDepth 100000 in
theorem law_loop {p : Program} {e : Env} {s : State} {m : MethodId} {below : List Frame} {meth : Method} {c : Code} (l : Launch) (hlt : l.stackTraces = false) {b L : Nat} {xs : Nat → Int32} (hL : L ≤ 3072) (C0 : lw_At p s m meth c b L xs) {E : ev_T} {ad mm : Nat → Nat} {o0 d0 : Nat} (hE : ev_U E s) (hU9 : ex_U (fun q : Nat => s.heap.size ≤ q) s s.heap) (hLD : LD E ad mm o0 d0 (fun q : Nat => s.heap.size ≤ q)) : ∀ (n i cl sl : Nat), i ≤ L → L < 6 * n + i + 6 → cl + 740 * n ≤ 601024 → sl + 3700 * n ≤ 7293034 → ∀ (H : Heap) (locs : List Loc) (ls : Array Slot), LX E ad mm o0 d0 H → va_S (fun q : Nat => s.heap.size ≤ q) s.heap H locs → lv_has ls 9 [(0, .ref b), (1, .ref (ad 0)), (2, .ref (mm 0)), (3, .ref o0), (4, .ref d0), (5, .int (nI i))] → W p l e room_1 s m #[Value.ref b] below meth c H locs cl sl (lw_Z below #[Value.ref b] s) (F0 m 28 ls []) := by
  obtain ⟨hx, hb, hr, hml, hown, hts0, hX, hbl, hlocks, hgv⟩ := id C0
  have hbA : ¬ (fun q : Nat => s.heap.size ≤ q) b := Nat.not_le.mpr hbl
  intro n
  induction n with
  | zero =>
    intro i cl sl hi h1 h2 h3 H locs ls hX0 hS hl
    refine lv_iload hx hb dL_law_28 (lv_at hl 5 rfl) ?_
    refine lv_aload_n hx hb dL_law_30 rfl (lv_at hl 0 rfl) ?_
    refine va_slen hx hb hX hbl hbA hS dL_law_31 ?_
    refine lv_bipush (v := 6) hx hb dL_law_32 (by decide) ?_
    refine lv_isub hx hb dL_law_34 ?_
    refine mz_gt (tgt := 1648) hx hb dL_law_35 (by decide) (fun c9 => ?_) (fun c9 => ?_)
    · refine lv_iconst (v := 1) hx hb dL_law_1648 (by decide) ?_
      refine va_forget (fun q hq => hS.2.2 q hq) ?_
      refine W.widen (k := 601024) (n := 7293034) (by omega) (by omega) ?_
      refine W.base ?_
      exact lw_ret (Drawn.sameBut.refl s.drawn lw_cs) hx hb hr hlocks dL_law_1649
    · exact absurd ((la_gt hL hi).mpr (by omega)) c9
  | succ n ih =>
    intro i cl sl hi h1 h2 h3 H locs ls hX0 hS hl
    refine lv_iload hx hb dL_law_28 (lv_at hl 5 rfl) ?_
    refine lv_aload_n hx hb dL_law_30 rfl (lv_at hl 0 rfl) ?_
    refine va_slen hx hb hX hbl hbA hS dL_law_31 ?_
    refine lv_bipush (v := 6) hx hb dL_law_32 (by decide) ?_
    refine lv_isub hx hb dL_law_34 ?_
    refine mz_gt (tgt := 1648) hx hb dL_law_35 (by decide) (fun c9 => ?_) (fun c9 => ?_)
    · refine lv_iconst (v := 1) hx hb dL_law_1648 (by decide) ?_
      refine va_forget (fun q hq => hS.2.2 q hq) ?_
      refine W.widen (k := 601024) (n := 7293034) (by omega) (by omega) ?_
      refine W.base ?_
      exact lw_ret (Drawn.sameBut.refl s.drawn lw_cs) hx hb hr hlocks dL_law_1649
    · have hi6 : i + 6 ≤ L := Classical.byContradiction fun q => c9 ((la_gt hL hi).mpr (by omega))
      have K : ∀ (H : Heap) (locs : List Loc) (ls : Array Slot), LX E ad mm o0 d0 H → va_S (fun q : Nat => s.heap.size ≤ q) s.heap H locs → lv_has ls 9 [(0, .ref b), (1, .ref (ad 0)), (2, .ref (mm 0)), (3, .ref o0), (4, .ref d0), (5, .int (nI i))] → W p l e room_1 s m #[Value.ref b] below meth c H locs (cl + 740) (sl + 3700) (lw_Z below #[Value.ref b] s) (F0 m 1642 ls []) := by
        intro H locs ls hX0 hS hl
        refine mz_iinc (k := 5) (lv' := [(5, .int (nI (i + 6))), (0, .ref b), (1, .ref (ad 0)), (2, .ref (mm 0)), (3, .ref o0), (4, .ref d0)]) hx hb i 6 dL_law_1642 hl rfl (by decide) rfl (fun ls hl => ?_)
        refine lv_goto (tgt := 28) hx hb dL_law_1645 (by decide) ?_
        exact ih (i + 6) (cl + 740) (sl + 3700) hi6 (by omega) (by omega) (by omega) H locs ls hX0 hS (lv_sub hl [1, 2, 3, 4, 5, 0] rfl)
      refine lv_aload_n hx hb dL_law_38 rfl (lv_at hl 0 rfl) ?_
      refine lv_iload hx hb dL_law_39 (lv_at hl 5 rfl) ?_
      refine la_sld hx hb hX hbl hbA hS i (by omega) hL dL_law_41 ?_
      refine lv_bipush (v := 31) hx hb dL_law_42 (by decide) ?_
      refine lv_iand hx hb dL_law_44 ?_
      obtain ⟨k9, hk9, e9⟩ := and31 (xs i)
      refine mz_fold e9 ?_
      rcases (show k9 = 0 ∨ k9 = 1 ∨ k9 = 2 ∨ k9 = 3 ∨ k9 = 4 ∨ k9 = 5 ∨ k9 = 6 ∨ k9 = 7 ∨ k9 = 8 ∨ k9 = 9 ∨ k9 = 10 ∨ k9 = 11 ∨ k9 = 12 ∨ k9 = 13 ∨ k9 = 14 ∨ k9 = 15 ∨ k9 = 16 ∨ k9 = 17 ∨ k9 = 18 ∨ k9 = 19 ∨ k9 = 20 ∨ k9 = 21 ∨ k9 = 22 ∨ k9 = 23 ∨ k9 = 24 ∨ k9 = 25 ∨ k9 = 26 ∨ k9 = 27 ∨ k9 = 28 ∨ k9 = 29 ∨ k9 = 30 ∨ k9 = 31 from by omega) with rfl | rfl | rfl | rfl | rfl | rfl | rfl | rfl | rfl | rfl | rfl | rfl | rfl | rfl | rfl | rfl | rfl | rfl | rfl | rfl | rfl | rfl | rfl | rfl | rfl | rfl | rfl | rfl | rfl | rfl | rfl | rfl
      · refine lv_tableIn (tgt := 160) hx hb dL_law_45 (by decide) (by decide) rfl (by decide) ?_
        exact arm_addRegion l hlt hL C0 hE hU9 hLD hi6 (by omega) (by omega) K hX0 hS hl
      · refine lv_tableIn (tgt := 204) hx hb dL_law_45 (by decide) (by decide) rfl (by decide) ?_
        exact arm_weather l hlt hL C0 hE hU9 hLD hi6 (by omega) (by omega) K hX0 hS hl
      · refine lv_tableIn (tgt := 315) hx hb dL_law_45 (by decide) (by decide) rfl (by decide) ?_
        exact arm_end l hlt hL C0 hE hU9 hLD hi6 (by omega) (by omega) K hX0 hS hl
      · refine lv_tableIn (tgt := 359) hx hb dL_law_45 (by decide) (by decide) rfl (by decide) ?_
        exact arm_day l hlt hL C0 hE hU9 hLD hi6 (by omega) (by omega) K hX0 hS hl
      · refine lv_tableIn (tgt := 372) hx hb dL_law_45 (by decide) (by decide) rfl (by decide) ?_
        exact arm_sector l hlt hL C0 hE hU9 hLD hi6 (by omega) (by omega) K hX0 hS hl
      · refine lv_tableIn (tgt := 452) hx hb dL_law_45 (by decide) (by decide) rfl (by decide) ?_
        exact arm_set l hlt hL C0 hE hU9 hLD hi6 (by omega) (by omega) K hX0 hS hl
      · refine lv_tableIn (tgt := 544) hx hb dL_law_45 (by decide) (by decide) rfl (by decide) ?_
        exact arm_problem l hlt hL C0 hE hU9 hLD hi6 (by omega) (by omega) K hX0 hS hl
      · refine lv_tableIn (tgt := 624) hx hb dL_law_45 (by decide) (by decide) rfl (by decide) ?_
        exact arm_danger l hlt hL C0 hE hU9 hLD hi6 (by omega) (by omega) K hX0 hS hl
      · refine lv_tableIn (tgt := 720) hx hb dL_law_45 (by decide) (by decide) rfl (by decide) ?_
        exact arm_level l hlt hL C0 hE hU9 hLD hi6 (by omega) (by omega) K hX0 hS hl
      · refine lv_tableIn (tgt := 776) hx hb dL_law_45 (by decide) (by decide) rfl (by decide) ?_
        exact arm_core l hlt hL C0 hE hU9 hLD hi6 (by omega) (by omega) K hX0 hS hl
      · refine lv_tableIn (tgt := 832) hx hb dL_law_45 (by decide) (by decide) rfl (by decide) ?_
        exact arm_mainProblem l hlt hL C0 hE hU9 hLD hi6 (by omega) (by omega) K hX0 hS hl
      · refine lv_tableIn (tgt := 888) hx hb dL_law_45 (by decide) (by decide) rfl (by decide) ?_
        exact arm_outlook l hlt hL C0 hE hU9 hLD hi6 (by omega) (by omega) K hX0 hS hl
      · refine lv_tableIn (tgt := 992) hx hb dL_law_45 (by decide) (by decide) rfl (by decide) ?_
        exact arm_publish l hlt hL C0 hE hU9 hLD hi6 (by omega) (by omega) K hX0 hS hl
      · refine lv_tableIn (tgt := 1036) hx hb dL_law_45 (by decide) (by decide) rfl (by decide) ?_
        exact arm_bulletin l hlt hL C0 hE hU9 hLD hi6 (by omega) (by omega) K hX0 hS hl
      · refine lv_tableIn (tgt := 1116) hx hb dL_law_45 (by decide) (by decide) rfl (by decide) ?_
        exact arm_bulletins l hlt hL C0 hE hU9 hLD hi6 (by omega) (by omega) K hX0 hS hl
      · refine lv_tableIn (tgt := 1129) hx hb dL_law_45 (by decide) (by decide) rfl (by decide) ?_
        exact arm_see l hlt hL C0 hE hU9 hLD hi6 (by omega) (by omega) K hX0 hS hl
      · refine lv_tableIn (tgt := 1209) hx hb dL_law_45 (by decide) (by decide) rfl (by decide) ?_
        exact arm_activity l hlt hL C0 hE hU9 hLD hi6 (by omega) (by omega) K hX0 hS hl
      · refine lv_tableIn (tgt := 1277) hx hb dL_law_45 (by decide) (by decide) rfl (by decide) ?_
        exact arm_borneOut l hlt hL C0 hE hU9 hLD hi6 (by omega) (by omega) K hX0 hS hl
      · refine lv_tableIn (tgt := 1333) hx hb dL_law_45 (by decide) (by decide) rfl (by decide) ?_
        exact arm_inCore l hlt hL C0 hE hU9 hLD hi6 (by omega) (by omega) K hX0 hS hl
      · refine lv_tableIn (tgt := 1410) hx hb dL_law_45 (by decide) (by decide) rfl (by decide) ?_
        exact arm_addLeg l hlt hL C0 hE hU9 hLD hi6 (by omega) (by omega) K hX0 hS hl
      · refine lv_tableIn (tgt := 1478) hx hb dL_law_45 (by decide) (by decide) rfl (by decide) ?_
        exact arm_clearRoute l hlt hL C0 hE hU9 hLD hi6 (by omega) (by omega) K hX0 hS hl
      · refine lv_tableIn (tgt := 1491) hx hb dL_law_45 (by decide) (by decide) rfl (by decide) ?_
        exact arm_risk l hlt hL C0 hE hU9 hLD hi6 (by omega) (by omega) K hX0 hS hl
      · refine lv_tableIn (tgt := 1559) hx hb dL_law_45 (by decide) (by decide) rfl (by decide) ?_
        exact arm_worstLeg l hlt hL C0 hE hU9 hLD hi6 (by omega) (by omega) K hX0 hS hl
      · refine lv_tableIn (tgt := 1615) hx hb dL_law_45 (by decide) (by decide) rfl (by decide) ?_
        exact arm_bestRegion l hlt hL C0 hE hU9 hLD hi6 (by omega) (by omega) K hX0 hS hl
      · refine lv_tableIn (tgt := 1628) hx hb dL_law_45 (by decide) (by decide) rfl (by decide) ?_
        exact arm_digest l hlt hL C0 hE hU9 hLD hi6 (by omega) (by omega) K hX0 hS hl
      · refine lv_tableOut (tgt := 1642) hx hb dL_law_45 (by decide) (by decide) ?_
        refine W.widen (k := cl + 740) (n := sl + 3700) (by omega) (by omega) ?_
        exact K _ _ _ hX0 hS hl
      · refine lv_tableOut (tgt := 1642) hx hb dL_law_45 (by decide) (by decide) ?_
        refine W.widen (k := cl + 740) (n := sl + 3700) (by omega) (by omega) ?_
        exact K _ _ _ hX0 hS hl
      · refine lv_tableOut (tgt := 1642) hx hb dL_law_45 (by decide) (by decide) ?_
        refine W.widen (k := cl + 740) (n := sl + 3700) (by omega) (by omega) ?_
        exact K _ _ _ hX0 hS hl
      · refine lv_tableOut (tgt := 1642) hx hb dL_law_45 (by decide) (by decide) ?_
        refine W.widen (k := cl + 740) (n := sl + 3700) (by omega) (by omega) ?_
        exact K _ _ _ hX0 hS hl
      · refine lv_tableOut (tgt := 1642) hx hb dL_law_45 (by decide) (by decide) ?_
        refine W.widen (k := cl + 740) (n := sl + 3700) (by omega) (by omega) ?_
        exact K _ _ _ hX0 hS hl
      · refine lv_tableOut (tgt := 1642) hx hb dL_law_45 (by decide) (by decide) ?_
        refine W.widen (k := cl + 740) (n := sl + 3700) (by omega) (by omega) ?_
        exact K _ _ _ hX0 hS hl
      · refine lv_tableOut (tgt := 1642) hx hb dL_law_45 (by decide) (by decide) ?_
        refine W.widen (k := cl + 740) (n := sl + 3700) (by omega) (by omega) ?_
        exact K _ _ _ hX0 hS hl
theorem ap_new {D : va_G} {cl : List vw_C} {w r w1 : va_W} {H : Heap} (hP : va_P D cl r H) (ha : ap r w) (hD : va_D (va_A w H.size) w1) : ap r w1 := by
  intro i j p q hi hj e
  rcases hD.2 j q hj with ⟨k, e9, hk⟩ | h
  · exact ha i k p _ hi hk e
  · have := (hP i p hi).lt
    rw [e] at this
    exact Nat.not_lt.mpr h this
set_option maxHeartbeats 4000000 in
set_option maxRecDepth 100000 in
theorem whole_start {p : Program} {e : Env} {s : State} {m : MethodId} {below : List Frame} {meth : Method} {c : Code} (l : Launch) (hflags : l.flags = flags0) {b L : Nat} {xs : Nat → Int32} (hL : L ≤ 3072) (C0 : lw_At p s m meth c b L xs) : W p l e room_1 s m #[Value.ref b] below meth c s.heap [] 0 0 (lw_Z below #[Value.ref b] s) (entryFrame m ([Value.ref b] : List Value).toArray 9) := by
  obtain ⟨hx, hb, hr, hml, hown, hts0, hX, hbl, hlocks, hgv⟩ := id C0
  have hts : ∀ w ∈ wsL_law, w.before #[Value.ref b] s = true := fun w h => hts0 w (wsL_law_in w h)
  have hown : s.vm.findClass RL = some m.cls := hown
  have hlt : l.stackTraces = false := by unfold Launch.stackTraces; rw [hflags]; decide +kernel
  obtain ⟨E, hE⟩ := ev_start hts0 hgv
  have hs := flat_of_before _ hgv
  have hAO : va_AO RX2 s := va_AO.of (hts0 (.arrayOver (.object RX2)) (by decide +kernel))
  have hno : ∀ a : Nat, a < s.heap.size → ¬ (fun q : Nat => s.heap.size ≤ q) a := fun a h q => absurd h (Nat.not_lt.mpr q)
  have hU9 : ex_U (fun q : Nat => s.heap.size ≤ q) s s.heap := ⟨vx_Zqof (hts0 _ (by decide +kernel)) (hts0 _ (by decide +kernel)) (hs _ (by decide +kernel)) hno, vx_Zqof (hts0 _ (by decide +kernel)) (hts0 _ (by decide +kernel)) (hs _ (by decide +kernel)) hno⟩
  have hA : ∀ q : Nat, s.heap.size ≤ q → (fun q : Nat => s.heap.size ≤ q) q := fun _ h => h
  have hS : va_S (fun q : Nat => s.heap.size ≤ q) s.heap s.heap [] := va_S.rf
  have hP : va_P E.1 vwCl [] s.heap := fun k q h => by simp at h
  have hD : va_D (fun q : Nat => s.heap.size ≤ q) [] := ⟨fun i j p q h => by simp at h, fun k q h => by simp at h⟩
  have hl := lv_entry ([.ref b]) (n := 9) (Nat.le_of_ble_eq_true rfl)
  rw [lg_entry_eq]
  generalize (lg_sl ([.ref b]) ++ List.replicate (9 - (lg_sl ([.ref b])).length) Slot.unset).toArray = ls at hl ⊢
  have hl : lv_has ls 9 [(0, .ref b)] := hl
  refine va_new (ci := 4) (fs := [.null, .null, .null, .null, .null, .int 0, .int 0]) (C := RX4) (T := TX4) (N := 7) hx hb hts0 inX4 tyX4 tyX4_ok hown (hts0 (.classLink RL 8 RX4) (by decide +kernel)) (hts0 (.instantiable RX4 7) (by decide +kernel)) (hts0 (.initialized RX4) (by decide +kernel)) hE.1 hP hD hS hA rfl (fun j hj => by rcases (show j = 0 ∨ j = 1 ∨ j = 2 ∨ j = 3 ∨ j = 4 ∨ j = 5 ∨ j = 6 from by omega) with rfl | rfl | rfl | rfl | rfl | rfl | rfl <;> rfl) (Nat.le_of_ble_eq_true rfl) (Nat.le_of_ble_eq_true rfl) dL_law_0 (fun q4 H hP hD hS => ?_)
  have hPc : va_P E.1 vwCl [(q4, .inr (4, [.null, .null, .null, .null, .null, .int 0, .int 0]))] H := hP
  have hDc : va_D (fun q : Nat => s.heap.size ≤ q) [(q4, .inr (4, [.null, .null, .null, .null, .null, .int 0, .int 0]))] := hD
  refine lv_dup hx hb dL_law_3 rfl ?_
  have hFc := fr_free (w := [(q4, .inr (4, [.null, .null, .null, .null, .null, .int 0, .int 0]))]) hDc hS hA
  refine va_callv (va_runI (As := []) (rest := [.ref q4]) ⟨hx, hb, hml, hown, hts⟩ (kX4_init l E q4 H.size) (cwI 0 hts gL_law_X4_init rfl rfl rfl (hts0 (.initialized RX4) (by decide +kernel)) (hts0 (.methodLink RL 84 yX4_init) (by decide +kernel)) (hts0 (.instanceMethod yX4_init) (by decide +kernel)) rfl (by decide +kernel) ⟨Nat.le_of_ble_eq_true rfl, Nat.le_of_ble_eq_true rfl⟩) ⟨(fun a U g mk q => ⟨q.1, ⟨q.2.1.1, q.2.1.2.1, q.2.1.2.2.1, ev_U.call q.2.1.2.2.2⟩, va_AO.moved (u := U) (U := U.calling g mk a) (Vm.Alike.refl U.vm) q.2.2⟩), fun U hU hW => ⟨rfl, ⟨by rw [hU], by rw [hU]; exact hPc, hDc.weaken (fun _ _ _ _ => trivial), hE.warm hW⟩, hAO.moved hW.alike⟩⟩ rfl rfl hl.1 rfl (lv_room (Nat.le_of_ble_eq_true rfl)) dL_law_4 ⟨Nat.le_of_ble_eq_true rfl, Nat.le_of_ble_eq_true rfl⟩) hS (fun q _ h => hFc q h) hFc (fun u t H1 locs ht hvm hw hB hz1 hk1 hS => ?_)
  obtain ⟨hP1, hD1⟩ := hB
  rw [ht] at hP1
  have hD2 := hD1.weaken (B := (fun q : Nat => s.heap.size ≤ q)) (fun _ _ _ h => hFc _ h)
  have hw : q4 = u 0 := hw.symm
  clear hP hD hPc hDc hFc hD1
  subst hw
  generalize H1 = H at hP1 hS ⊢
  have hP : va_P E.1 vwCl (dC E u S0 (fun _ => 0) 0 0 0 0 0) H := hP1
  have hD : va_D (fun q : Nat => s.heap.size ≤ q) (dC E u S0 (fun _ => 0) 0 0 0 0 0) := hD2
  refine lv_astore_n (lv' := [(1, .ref (u 0)), (0, .ref b)]) hx hb dL_law_7 rfl hl (by decide) rfl (fun ls hl => ?_)
  refine va_new (ci := 5) (fs := [.int 0, .int 0, .int 0, .null, .null, .null, .null, .null, .int 0, .null, .int 0, .null, .null]) (C := RX5) (T := TX5) (N := 13) hx hb hts0 inX5 tyX5 tyX5_ok hown (hts0 (.classLink RL 85 RX5) (by decide +kernel)) (hts0 (.instantiable RX5 13) (by decide +kernel)) (hts0 (.initialized RX5) (by decide +kernel)) hE.1 hP hD hS hA rfl (fun j hj => by rcases (show j = 0 ∨ j = 1 ∨ j = 2 ∨ j = 3 ∨ j = 4 ∨ j = 5 ∨ j = 6 ∨ j = 7 ∨ j = 8 ∨ j = 9 ∨ j = 10 ∨ j = 11 ∨ j = 12 from by omega) with rfl | rfl | rfl | rfl | rfl | rfl | rfl | rfl | rfl | rfl | rfl | rfl | rfl <;> rfl) (Nat.le_of_ble_eq_true rfl) (Nat.le_of_ble_eq_true rfl) dL_law_8 (fun q5 H hP hD hS => ?_)
  have hPd := fr_l hP
  have hPc := fr_r hP
  have hDc := fr_Dr hD
  have hDd := fr_Dl hD
  have hap := ap_of hD
  refine lv_dup hx hb dL_law_11 rfl ?_
  have hFc := fr_free (w := [(q5, .inr (5, [.int 0, .int 0, .int 0, .null, .null, .null, .null, .null, .int 0, .null, .int 0, .null, .null]))]) hDc hS hA
  refine va_callv (va_runI (As := []) (rest := [.ref q5]) ⟨hx, hb, hml, hown, hts⟩ (kX5_init l E q5 H.size) (cwI 0 hts gL_law_X5_init rfl rfl rfl (hts0 (.initialized RX5) (by decide +kernel)) (hts0 (.methodLink RL 87 yX5_init) (by decide +kernel)) (hts0 (.instanceMethod yX5_init) (by decide +kernel)) rfl (by decide +kernel) ⟨Nat.le_of_ble_eq_true rfl, Nat.le_of_ble_eq_true rfl⟩) ⟨fb_W, fun U hU hW => ⟨rfl, by rw [hU], by rw [hU]; exact hPc, hDc.weaken (fun _ _ _ _ => trivial), hE.warm hW⟩⟩ rfl rfl hl.1 rfl (lv_room (Nat.le_of_ble_eq_true rfl)) dL_law_12 ⟨Nat.le_of_ble_eq_true rfl, Nat.le_of_ble_eq_true rfl⟩) hS (fun q _ h => hFc q h) hFc (fun v t H1 locs ht hvm hw hB hz1 hk1 hS => ?_)
  obtain ⟨hP1, hD1⟩ := hB
  rw [ht] at hP1
  have hap2 := ap_new hPd hap hD1
  have hD1 := hD1.weaken (B := (fun q : Nat => s.heap.size ≤ q)) (fun _ _ _ h => hFc _ h)
  have hPd := ap_keep hap.comm hPd hk1
  clear hP hD hPc hDc hFc
  generalize H1 = H at hP1 hPd hS ⊢
  have hP : va_P E.1 vwCl ((dC E u S0 (fun _ => 0) 0 0 0 0 0) ++ (mC E (fun k => match k with | 0 => q5 | k + 1 => v (k + 1)) 0 0 0 0 0 (fun _ => 0) (caR (fun _ => 0) 6) (caT (fun _ => 0) 6) (fun _ => 0) (fun _ => 0) (fun _ => 0) (fun _ => 0) (fun _ => 0))) H := hPd.app hP1
  have hD : va_D (fun q : Nat => s.heap.size ≤ q) ((dC E u S0 (fun _ => 0) 0 0 0 0 0) ++ (mC E (fun k => match k with | 0 => q5 | k + 1 => v (k + 1)) 0 0 0 0 0 (fun _ => 0) (caR (fun _ => 0) 6) (caT (fun _ => 0) 6) (fun _ => 0) (fun _ => 0) (fun _ => 0) (fun _ => 0) (fun _ => 0))) := hDd.app hD1 hap2
  refine lv_astore_n (lv' := [(2, .ref q5), (1, .ref (u 0)), (0, .ref b)]) hx hb dL_law_15 rfl hl (by decide) rfl (fun ls hl => ?_)
  refine lv_iconst (v := 1) hx hb dL_law_16 (by decide) ?_
  refine va_newa (atype := .long) (ty := .long) (a0 := (1, .inr (.inl (fun _ => 0)))) (N' := 1) hx hb (hts0 (.arrayClass .long) (by decide +kernel)) rfl hE.1 hP hD hS hA (fun _ => rfl) (by decide) (by decide) (by decide) (Nat.le_of_ble_eq_true rfl) (Nat.le_of_ble_eq_true rfl) dL_law_17 (fun o0 cA9 H hK9 hP hD hS => ?_)
  obtain rfl : E.2.1 3 = cA9 := ev_same3 hK9
  refine lv_astore_n (lv' := [(3, .ref o0), (2, .ref q5), (1, .ref (u 0)), (0, .ref b)]) hx hb dL_law_19 rfl hl (by decide) rfl (fun ls hl => ?_)
  refine lv_iconst (v := 1) hx hb dL_law_20 (by decide) ?_
  refine va_newa (atype := .double) (ty := .double) (a0 := (1, .inr (.inr (.inr (.inl (fun _ => 0)))))) (N' := 1) hx hb (hts0 (.arrayClass .double) (by decide +kernel)) rfl hE.1 hP hD hS hA (fun _ => rfl) (by decide) (by decide) (by decide) (Nat.le_of_ble_eq_true rfl) (Nat.le_of_ble_eq_true rfl) dL_law_21 (fun d0 cA9 H hK9 hP hD hS => ?_)
  obtain rfl : E.2.1 4 = cA9 := ev_same4 hK9
  refine lv_astore (lv' := [(4, .ref d0), (3, .ref o0), (2, .ref q5), (1, .ref (u 0)), (0, .ref b)]) hx hb dL_law_23 hl (by decide) rfl (fun ls hl => ?_)
  refine lv_iconst (v := 0) hx hb dL_law_25 (by decide) ?_
  refine lv_istore (lv' := [(5, .int 0), (4, .ref d0), (3, .ref o0), (2, .ref q5), (1, .ref (u 0)), (0, .ref b)]) hx hb dL_law_26 hl (by decide) rfl (fun ls hl => ?_)
  have hP : va_P E.1 vwCl (((((dC E u S0 (fun _ => 0) 0 0 0 0 0) ++ (mC E (fun k => match k with | 0 => q5 | k + 1 => v (k + 1)) 0 0 0 0 0 (fun _ => 0) (caR (fun _ => 0) 6) (caT (fun _ => 0) 6) (fun _ => 0) (fun _ => 0) (fun _ => 0) (fun _ => 0) (fun _ => 0)))) ++ [oL E o0 (fun _ => 0)]) ++ [oD E d0 (fun _ => 0)]) H := hP
  have hD : va_D (fun q : Nat => s.heap.size ≤ q) (((((dC E u S0 (fun _ => 0) 0 0 0 0 0) ++ (mC E (fun k => match k with | 0 => q5 | k + 1 => v (k + 1)) 0 0 0 0 0 (fun _ => 0) (caR (fun _ => 0) 6) (caT (fun _ => 0) 6) (fun _ => 0) (fun _ => 0) (fun _ => 0) (fun _ => 0) (fun _ => 0)))) ++ [oL E o0 (fun _ => 0)]) ++ [oD E d0 (fun _ => 0)]) := hD
  have hLD := LD_of hD
  have hX0 : LX E u (fun k => match k with | 0 => q5 | k + 1 => v (k + 1)) o0 d0 H := ⟨_, _, _, _, _, _, _, _, _, _, _, _, _, _, _, _, _, RK_0, fr_l (fr_l (fr_l hP)), fr_r (fr_l hP), fr_r (fr_l (fr_l hP)), fr_r hP⟩
  refine W.widen (k := 100) (n := 10000) (by decide) (by decide) ?_
  exact law_loop l hlt hL C0 hE hU9 hLD 512 0 100 10000 (Nat.zero_le L) (by omega) (by decide) (by decide) H _ ls hX0 hS (lv_sub hl [5, 4, 3, 2, 1, 0] rfl)
