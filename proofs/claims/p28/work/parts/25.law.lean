/-! the law: a method that could throw, at arguments at which it does not -/
theorem vx_noX {l : Launch} {y : MethodName} {ws : List Cond} {rm : Room} {Pc : Array Value → State → Prop} {Qc : Array Value → State → Outcome → State → Prop} {T : Type} {px : T → Prop} {B : String → T → State → Prop} {A : Nat → Prop} {mc ms : Nat} {free : Addr → Prop}
    (h : vx_Met l y ws rm Pc Qc (vx_X px B A) mc ms free) (hn : ∀ u, ¬ px u) : Met l y ws rm Pc Qc mc ms free := by
  intro p e ha hc hk s m args below hf hap hP hK
  obtain ⟨n, o, h1, h2, h3, h4⟩ := h p e ha hc hk s m args below hf hap hP hK
  refine ⟨n, o, h1, h2, h3, ?_⟩
  rcases h4 with h5 | ⟨q, _, E, ce, L, ⟨u, hu, _⟩, _⟩
  · exact h5
  · exact absurd hu (hn u)
theorem vx_imp {l : Launch} {y : MethodName} {ws : List Cond} {rm : Room} {Pc : Array Value → State → Prop} {Qc Qc' : Array Value → State → Outcome → State → Prop} {mc ms : Nat} {free : Addr → Prop}
    (h : Met l y ws rm Pc Qc mc ms free) (hq : ∀ a s o t, Qc a s o t → Qc' a s o t) : Met l y ws rm Pc Qc' mc ms free := by
  intro p e ha hc hk s m args below hf hap hP hK
  obtain ⟨n, o, h1, h2, h3, h4⟩ := h p e ha hc hk s m args below hf hap hP hK
  exact ⟨n, o, h1, h2, h3, hq _ _ _ _ h4.1, h4.2⟩
theorem vx_impi {l : Launch} {y : MethodName} {ws : List Cond} {rm : Room} {Pc : Array Value → State → Prop} {T : Type} {post post' : Int32 → T → Prop} {B : T → State → Prop} {A : Nat → Prop} {mc ms : Nat} {free : Addr → Prop}
    (h : Met l y ws rm Pc (va_Qi post B A) mc ms free) (hq : ∀ r u, post r u → post' r u) : Met l y ws rm Pc (va_Qi post' B A) mc ms free :=
  vx_imp h fun _ _ _ _ ⟨⟨r, u, e1, e2, e3⟩, e4⟩ => ⟨⟨r, u, e1, hq r u e2, e3⟩, e4⟩
theorem vx_impd {l : Launch} {y : MethodName} {ws : List Cond} {rm : Room} {Pc : Array Value → State → Prop} {T : Type} {post post' : UInt64 → T → Prop} {B : T → State → Prop} {A : Nat → Prop} {mc ms : Nat} {free : Addr → Prop}
    (h : Met l y ws rm Pc (va_Qd post B A) mc ms free) (hq : ∀ r u, post r u → post' r u) : Met l y ws rm Pc (va_Qd post' B A) mc ms free :=
  vx_imp h fun _ _ _ _ ⟨⟨r, u, e1, e2, e3⟩, e4⟩ => ⟨⟨r, u, e1, hq r u e2, e3⟩, e4⟩
theorem fr_free {A : Nat → Prop} {w : va_W} {H0 H : Heap} {locs : List Loc} (hD : va_D A w) (hS : va_S A H0 H locs) (hA : ∀ q : Nat, H0.size ≤ q → A q) : ∀ q, va_A w H.size q → A q := by
  rintro q (⟨k, e, h⟩ | h)
  · exact hD.2 k _ h
  · exact hA q (Nat.le_trans hS.1 h)
theorem dC_fst (E : ev_T) (ad : Nat → Nat) (S S' : Nat → Nat → Int32) (zs zs' : Nat → Nat) (rn dy bn cn tn rn' dy' bn' cn' tn' : Nat) : (dC E ad S zs rn dy bn cn tn).map (fun q => q.1) = (dC E ad S' zs' rn' dy' bn' cn' tn').map (fun q => q.1) := by
  simp only [dC, oR, aR, List.map_cons, List.map_nil]
theorem see_18 (S : Nat → Nat → Int32) (A B C D : Nat → Int32) : va_up (va_up (va_up (va_up S 20 A) 21 B) 22 C) 23 D 18 = S 18 := by
  rw [va_up_ne _ _ (by decide), va_up_ne _ _ (by decide), va_up_ne _ _ (by decide), va_up_ne _ _ (by decide)]
theorem SZ_pub (zs : Nat → Nat) (d x : Nat) : SZ (va_up zs d x) (d + 1) = SZ zs d + x := by
  show SZ (va_up zs d x) d + va_up zs d x d = _
  rw [SZ_up d (Nat.le_refl _), va_up_self]
set_option maxHeartbeats 4000000 in
set_option maxRecDepth 100000 in
theorem kL_below (l : Launch) (E : ev_T) (xv : Int32) (nn : Nat) (h0 : 0 < nn) (h1 : nn < 2147483648) : Met l yL_below wsL_below ({ frames := 0, cells := 0, slots := 0, locals := 0 } : Room) (va_Pc [.int xv, .int (nI nn)] (fun _ => True)) (va_Qi (fun (r : Int32) (_ : Unit) => r = nI (bl xv nn)) (fun _ _ => True) (fun _ : Nat => False)) 0 0 (fun _ : Nat => False) := by
  refine Met.ofW (cc := cL_below) (maxL := 2) (ret := (some .int)) (by decide) rfl ?_
  intro p e s m args below meth c s₁ B hml hv
  obtain ⟨rfl, -⟩ := hv
  have hx := B.exec
  have hb := B.bytes
  have hr := B.returns
  have hts := atoms_spec (ws := wsL_below) B.pre
  have hown : s.vm.findClass RL = some m.cls := findClass_of_methodNamed B.named
  have hlocks := B.notSynchronized
  refine mz_start (fun H locs hH hL => ?_)
  have hS : va_S (fun _ : Nat => False) s.heap H locs := by rw [hH, hL]; exact va_S.rf
  have kc7 := hts (.constant RL 7 (2147483647)) (by decide +kernel)
  have hl := lv_entry ([.int xv, .int (nI nn)]) (n := 2) (Nat.le_of_ble_eq_true rfl)
  rw [lg_entry_eq]
  generalize (lg_sl ([.int xv, .int (nI nn)]) ++ List.replicate (2 - (lg_sl ([.int xv, .int (nI nn)])).length) Slot.unset).toArray = ls at hl ⊢
  have hl : lv_has ls 2 [(0, .int xv), (1, .int (nI nn))] := hl
  refine lv_iload_n hx hb dL_below_0 rfl (lv_at hl 0 rfl) ?_
  refine lv_ldc hx hb hown kc7 dL_below_1 ?_
  refine lv_iand hx hb dL_below_3 ?_
  have hk9 := an31_lt xv
  refine mz_fold (y := nI (Int32.toNatClampNeg (xv &&& 2147483647))) (an31 xv) ?_
  refine lv_iload_n hx hb dL_below_4 rfl (lv_at hl 1 rfl) ?_
  refine mz_remN hx hb (Int32.toNatClampNeg (xv &&& 2147483647)) nn (by omega) (by omega) (by omega) dL_below_5 ?_
  exact W.iret (v := nI ((Int32.toNatClampNeg (xv &&& 2147483647)) % nn)) hx hb hr (fun t ht hW => ⟨⟨_, (), rfl, (by first | rfl), trivial⟩, hS.F ht⟩) hS.2.2 dL_below_6
set_option maxHeartbeats 4000000 in
set_option maxRecDepth 100000 in
theorem kL_cell (l : Launch) (E : ev_T) (b : Nat) (L : Nat) (xs : Nat → Int32) (kn : Nat) (hL : L ≤ 260) (hkn : kn < 1000) : Met l yL_cell wsL_cell ({ frames := 0, cells := 0, slots := 0, locals := 0 } : Room) (va_Pc [.ref b, .int (nI kn)] (fun U => va_X b L xs U U.heap ∧ b < U.heap.size)) (va_Qi (fun (r : Int32) (_ : Unit) => True) (fun _ _ => True) (fun _ : Nat => False)) 0 0 (fun _ : Nat => False) := by
  refine Met.ofW (cc := cL_cell) (maxL := 2) (ret := (some .int)) (by decide) rfl ?_
  intro p e s m args below meth c s₁ B hml hv
  obtain ⟨rfl, hX, hbl⟩ := hv
  have hbA : ¬ (fun _ : Nat => False) b := fun h => h
  have hx := B.exec
  have hb := B.bytes
  have hr := B.returns
  have hts := atoms_spec (ws := wsL_cell) B.pre
  have hown : s.vm.findClass RL = some m.cls := findClass_of_methodNamed B.named
  have hlocks := B.notSynchronized
  refine mz_start (fun H locs hH hL => ?_)
  have hS : va_S (fun _ : Nat => False) s.heap H locs := by rw [hH, hL]; exact va_S.rf
  have kc8 := hts (.constant RL 8 (790386105)) (by decide +kernel)
  have hl := lv_entry ([.ref b, .int (nI kn)]) (n := 2) (Nat.le_of_ble_eq_true rfl)
  rw [lg_entry_eq]
  generalize (lg_sl ([.ref b, .int (nI kn)]) ++ List.replicate (2 - (lg_sl ([.ref b, .int (nI kn)])).length) Slot.unset).toArray = ls at hl ⊢
  have hl : lv_has ls 2 [(0, .ref b), (1, .int (nI kn))] := hl
  refine lv_iload_n hx hb dL_cell_0 rfl (lv_at hl 1 rfl) ?_
  refine lv_aload_n hx hb dL_cell_1 rfl (lv_at hl 0 rfl) ?_
  refine va_slen hx hb hX hbl hbA hS dL_cell_2 ?_
  refine mz_geN hx hb kn L (tgt := 12) dL_cell_3 (by decide) (by omega) (by omega) (fun c_3 => ?_) (fun c_3 => ?_)
  · refine lv_ldc hx hb hown kc8 dL_cell_12 ?_
    refine lv_iload_n hx hb dL_cell_14 rfl (lv_at hl 1 rfl) ?_
    refine lv_iconst (v := 3) hx hb dL_cell_15 (by decide) ?_
    refine mz_addN hx hb kn 3 dL_cell_16 ?_
    refine mz_mulN hx hb 790386105 (kn + 3) dL_cell_17 ?_
    exact W.iret (v := nI (790386105 * (kn + 3))) hx hb hr (fun t ht hW => ⟨⟨_, (), rfl, (trivial), trivial⟩, hS.F ht⟩) hS.2.2 dL_cell_18
  · refine lv_aload_n hx hb dL_cell_6 rfl (lv_at hl 0 rfl) ?_
    refine lv_iload_n hx hb dL_cell_7 rfl (lv_at hl 1 rfl) ?_
    refine va_sld hx hb hX hbl hbA hS (vp_in_nI (show kn < L by omega) (by omega)) dL_cell_8 ?_
    rw [nI_clamp (show kn < 2 ^ 31 by omega)]
    refine lv_goto (tgt := 18) hx hb dL_cell_9 (by decide) ?_
    exact W.iret (v := xs kn) hx hb hr (fun t ht hW => ⟨⟨_, (), rfl, (trivial), trivial⟩, hS.F ht⟩) hS.2.2 dL_cell_18
set_option maxHeartbeats 1000000 in
theorem n_addRegion (l : Launch) (hlt : l.stackTraces = false) (E : ev_T) (ad : Nat → Nat) (S : Nat → Nat → Int32) (zs : Nat → Nat) (rn dy bn cn tn : Nat) (sz : Nat) (hrn : rn ≤ 6) (hdy : dy ≤ 60) (hj : rn < 6) : Met l yX4_addRegion wsX4_addRegion ({ frames := 6, cells := 1, slots := 6, locals := 82 } : Room) (va_Pc [.ref (ad 0)] (pr_Y E (dC E ad S zs rn dy bn cn tn) sz)) (va_Qi (fun (r : Int32) (_ : Unit) => True) (fun _ t => va_P E.1 vwCl (dC E ad S zs (rn + 1) dy bn cn tn) t.heap) (va_A (dC E ad S zs rn dy bn cn tn) sz)) 1 6 (va_A (dC E ad S zs rn dy bn cn tn) sz) := by
  have h := vx_noX (kX4_addRegion l hlt E ad S zs rn dy bn cn tn sz hrn hdy) (fun u hu => hu.2 (hu.1.trans (tAdd0 hj)))
  exact vx_impi h (fun r u q => trivial)
set_option maxHeartbeats 1000000 in
theorem n_weather (l : Launch) (hlt : l.stackTraces = false) (E : ev_T) (ad : Nat → Nat) (S : Nat → Nat → Int32) (zs : Nat → Nat) (rn dy bn cn tn : Nat) (jr : Nat) (xn : Int32) (xw : Int32) (xf : Int32) (xt : Int32) (sz : Nat) (hrn : rn ≤ 6) (hdy : dy ≤ 60) (hj : jr < rn) (hw : ¬ wthF xn xw xf xt = 0) : Met l yX4_weather wsX4_weather ({ frames := 7, cells := 2, slots := 12, locals := 105 } : Room) (va_Pc [.ref (ad 0), .int (nI jr), .int xn, .int xw, .int xf, .int xt] (pr_Y E (dC E ad S zs rn dy bn cn tn) sz)) (va_Qi (fun (r : Int32) (_ : Unit) => True) (fun _ t => va_P E.1 vwCl (dC E ad (va_up S (2 + 2 * jr) (fF 1 xn xw xf xt)) zs rn dy bn cn tn) t.heap) (va_A (dC E ad S zs rn dy bn cn tn) sz)) 2 12 (va_A (dC E ad S zs rn dy bn cn tn) sz) := by
  have h := vx_noX (kX4_weather l hlt E ad S zs rn dy bn cn tn (nI jr) xn xw xf xt sz hrn hdy) (fun u hu => hu.2 (hu.1.trans (tWea0 hj hrn hw)))
  try rw [nI_clamp (show jr < 2 ^ 31 by omega)] at h
  exact vx_impi h (fun r u q => trivial)
set_option maxHeartbeats 1000000 in
theorem n_sector (l : Launch) (hlt : l.stackTraces = false) (E : ev_T) (ad : Nat → Nat) (S : Nat → Nat → Int32) (zs : Nat → Nat) (rn dy bn cn tn : Nat) (jr : Nat) (js : Nat) (jw : Nat) (hrn : rn ≤ 6) (hdy : dy ≤ 60) (hj : jr < rn) (hs : js < 12) (hw : jw < 5) : Met l yX4_sector wsX4_sector ({ frames := 7, cells := 3, slots := 18, locals := 103 } : Room) (va_Pc [.ref (ad 0), .int (nI jr), .int (nI js), .int (nI jw)] (pr_X E (dC E ad S zs rn dy bn cn tn))) (va_Qi (fun (r : Int32) (_ : Unit) => r = S (3 + 2 * jr) (js * 5 + jw)) (fun _ _ => True) (fun _ : Nat => False)) 3 18 (fun _ : Nat => False) := by
  have h := vx_noX (kX4_sector l hlt E ad S zs rn dy bn cn tn (nI jr) (nI js) (nI jw) hrn hdy) (fun u hu => hu.2 (hu.1.trans (tSec0 hj hs hw hrn)))
  try rw [nI_clamp (show jr < 2 ^ 31 by omega)] at h
  try rw [nI_clamp (show js < 2 ^ 31 by omega)] at h
  try rw [nI_clamp (show jw < 2 ^ 31 by omega)] at h
  exact vx_impi h (fun r u q => q.2)
set_option maxHeartbeats 1000000 in
theorem n_problem (l : Launch) (hlt : l.stackTraces = false) (E : ev_T) (ad : Nat → Nat) (S : Nat → Nat → Int32) (zs : Nat → Nat) (rn dy bn cn tn : Nat) (jr : Nat) (js : Nat) (jp : Nat) (hrn : rn ≤ 6) (hdy : dy ≤ 60) (hj : jr < rn) (hs : js < 12) (hp : jp < 4) : Met l yX4_problem wsX4_problem ({ frames := 7, cells := 3, slots := 18, locals := 103 } : Room) (va_Pc [.ref (ad 0), .int (nI jr), .int (nI js), .int (nI jp)] (pr_X E (dC E ad S zs rn dy bn cn tn))) (va_Qi (fun (r : Int32) (_ : Unit) => r = prR (rw5 (S (3 + 2 * jr)) js) jp) (fun _ _ => True) (fun _ : Nat => False)) 3 18 (fun _ : Nat => False) := by
  have h := vx_noX (kX4_problem l hlt E ad S zs rn dy bn cn tn (nI jr) (nI js) (nI jp) hrn hdy) (fun u hu => hu.2 (hu.1.trans (tPrb0 hj hs hp hrn)))
  try rw [nI_clamp (show jr < 2 ^ 31 by omega)] at h
  try rw [nI_clamp (show js < 2 ^ 31 by omega)] at h
  try rw [nI_clamp (show jp < 2 ^ 31 by omega)] at h
  exact vx_impi h (fun r u q => q.2)
set_option maxHeartbeats 1000000 in
theorem n_dangerL (l : Launch) (hlt : l.stackTraces = false) (E : ev_T) (ad : Nat → Nat) (S : Nat → Nat → Int32) (zs : Nat → Nat) (rn dy bn cn tn : Nat) (jr : Nat) (js : Nat) (hrn : rn ≤ 6) (hdy : dy ≤ 60) (hj : jr < rn) (hs : js < 12) : Met l yX4_danger wsX4_danger ({ frames := 7, cells := 2, slots := 12, locals := 103 } : Room) (va_Pc [.ref (ad 0), .int (nI jr), .int (nI js), .int 1] (pr_X E (dC E ad S zs rn dy bn cn tn))) (va_Qi (fun (r : Int32) (_ : Unit) => r = lvD (dngA (rw5 (S (3 + 2 * jr)) js))) (fun _ _ => True) (fun _ : Nat => False)) 2 12 (fun _ : Nat => False) := by
  have h := vx_noX (kX4_danger l hlt E ad S zs rn dy bn cn tn (nI jr) (nI js) 1 hrn hdy) (fun u hu => hu.2 (hu.1.trans (tDan0 hj hs hrn)))
  try rw [nI_clamp (show jr < 2 ^ 31 by omega)] at h
  try rw [nI_clamp (show js < 2 ^ 31 by omega)] at h
  exact vx_impi h (fun r u q => q.2.trans (if_neg (by decide)))
set_option maxHeartbeats 1000000 in
theorem n_dangerD (l : Launch) (hlt : l.stackTraces = false) (E : ev_T) (ad : Nat → Nat) (S : Nat → Nat → Int32) (zs : Nat → Nat) (rn dy bn cn tn : Nat) (jr : Nat) (js : Nat) (hrn : rn ≤ 6) (hdy : dy ≤ 60) (hj : jr < rn) (hs : js < 12) : Met l yX4_danger wsX4_danger ({ frames := 7, cells := 2, slots := 12, locals := 103 } : Room) (va_Pc [.ref (ad 0), .int (nI jr), .int (nI js), .int 0] (pr_X E (dC E ad S zs rn dy bn cn tn))) (va_Qi (fun (r : Int32) (_ : Unit) => r = dngA (rw5 (S (3 + 2 * jr)) js)) (fun _ _ => True) (fun _ : Nat => False)) 2 12 (fun _ : Nat => False) := by
  have h := vx_noX (kX4_danger l hlt E ad S zs rn dy bn cn tn (nI jr) (nI js) 0 hrn hdy) (fun u hu => hu.2 (hu.1.trans (tDan0 hj hs hrn)))
  try rw [nI_clamp (show jr < 2 ^ 31 by omega)] at h
  try rw [nI_clamp (show js < 2 ^ 31 by omega)] at h
  exact vx_impi h (fun r u q => q.2.trans (if_pos rfl))
set_option maxHeartbeats 1000000 in
theorem n_level (l : Launch) (hlt : l.stackTraces = false) (E : ev_T) (ad : Nat → Nat) (S : Nat → Nat → Int32) (zs : Nat → Nat) (rn dy bn cn tn : Nat) (jr : Nat) (hrn : rn ≤ 6) (hdy : dy ≤ 60) (hj : jr < rn) : Met l yX4_level wsX4_level ({ frames := 7, cells := 1, slots := 6, locals := 103 } : Room) (va_Pc [.ref (ad 0), .int (nI jr)] (pr_X E (dC E ad S zs rn dy bn cn tn))) (va_Qi (fun (r : Int32) (_ : Unit) => r = levA (S (3 + 2 * jr))) (fun _ _ => True) (fun _ : Nat => False)) 1 6 (fun _ : Nat => False) := by
  have h := vx_noX (kX4_level l hlt E ad S zs rn dy bn cn tn (nI jr) hrn hdy) (fun u hu => hu.2 (hu.1.trans (tReg0 hj hrn)))
  try rw [nI_clamp (show jr < 2 ^ 31 by omega)] at h
  exact vx_impi h (fun r u q => q.2)
set_option maxHeartbeats 1000000 in
theorem n_core (l : Launch) (hlt : l.stackTraces = false) (E : ev_T) (ad : Nat → Nat) (S : Nat → Nat → Int32) (zs : Nat → Nat) (rn dy bn cn tn : Nat) (jr : Nat) (hrn : rn ≤ 6) (hdy : dy ≤ 60) (hj : jr < rn) : Met l yX4_core wsX4_core ({ frames := 7, cells := 1, slots := 6, locals := 103 } : Room) (va_Pc [.ref (ad 0), .int (nI jr)] (pr_X E (dC E ad S zs rn dy bn cn tn))) (va_Qi (fun (r : Int32) (_ : Unit) => r = crA (S (3 + 2 * jr)) (levA (S (3 + 2 * jr))) 12) (fun _ _ => True) (fun _ : Nat => False)) 1 6 (fun _ : Nat => False) := by
  have h := vx_noX (kX4_core l hlt E ad S zs rn dy bn cn tn (nI jr) hrn hdy) (fun u hu => hu.2 (hu.1.trans (tReg0 hj hrn)))
  try rw [nI_clamp (show jr < 2 ^ 31 by omega)] at h
  exact vx_impi h (fun r u q => q.2)
set_option maxHeartbeats 1000000 in
theorem n_mainProblem (l : Launch) (hlt : l.stackTraces = false) (E : ev_T) (ad : Nat → Nat) (S : Nat → Nat → Int32) (zs : Nat → Nat) (rn dy bn cn tn : Nat) (jr : Nat) (hrn : rn ≤ 6) (hdy : dy ≤ 60) (hj : jr < rn) : Met l yX4_mainProblem wsX4_mainProblem ({ frames := 7, cells := 1, slots := 6, locals := 103 } : Room) (va_Pc [.ref (ad 0), .int (nI jr)] (pr_X E (dC E ad S zs rn dy bn cn tn))) (va_Qi (fun (r : Int32) (_ : Unit) => r = (fpA (S (3 + 2 * jr)) (crA (S (3 + 2 * jr)) (levA (S (3 + 2 * jr))) 12) 4).1) (fun _ _ => True) (fun _ : Nat => False)) 1 6 (fun _ : Nat => False) := by
  have h := vx_noX (kX4_mainProblem l hlt E ad S zs rn dy bn cn tn (nI jr) hrn hdy) (fun u hu => hu.2 (hu.1.trans (tReg0 hj hrn)))
  try rw [nI_clamp (show jr < 2 ^ 31 by omega)] at h
  exact vx_impi h (fun r u q => q.2)
set_option maxHeartbeats 1000000 in
theorem n_publish (l : Launch) (hlt : l.stackTraces = false) (E : ev_T) (ad : Nat → Nat) (S : Nat → Nat → Int32) (zs : Nat → Nat) (rn dy bn cn tn : Nat) (sz : Nat) (hrn : rn ≤ 6) (hdy : dy ≤ 60) (hz : ∀ k, k ≤ 60 → zs k ≤ 6) (h0 : zs dy = 0) (h1 : 1 ≤ rn) : Met l yX4_publish wsX4_publish ({ frames := 6, cells := 1, slots := 6, locals := 95 } : Room) (va_Pc [.ref (ad 0)] (pr_Y E (dC E ad S zs rn dy bn cn tn) sz)) (va_Qi (fun (r : Int32) (_ : Unit) => r = pgD S rn) (fun _ t => va_P E.1 vwCl (dC E ad (va_up S 18 (pbD S dy rn)) (va_up zs dy rn) rn dy (bn + 1) cn tn) t.heap) (va_A (dC E ad S zs rn dy bn cn tn) sz)) 1 6 (va_A (dC E ad S zs rn dy bn cn tn) sz) := by
  have h := vx_noX (kX4_publish l hlt E ad S zs rn dy bn cn tn sz hrn hdy hz) (fun u hu => hu.2 (hu.1.trans (tPub0 h0 h1)))
  exact vx_impi h (fun r u q => q.2)
set_option maxHeartbeats 1000000 in
theorem n_bulletin (l : Launch) (hlt : l.stackTraces = false) (E : ev_T) (ad : Nat → Nat) (S : Nat → Nat → Int32) (zs : Nat → Nat) (rn dy bn cn tn : Nat) (jd : Nat) (jr : Nat) (jw : Nat) (hrn : rn ≤ 6) (hdy : dy ≤ 60) (hz : ∀ k, k ≤ 60 → zs k ≤ 6) (hd : jd ≤ 60) (hr : jr < zs jd) (hw : jw < 3) (hj6 : jr < 6) : Met l yX4_bulletin wsX4_bulletin ({ frames := 6, cells := 1, slots := 6, locals := 82 } : Room) (va_Pc [.ref (ad 0), .int (nI jd), .int (nI jr), .int (nI jw)] (pr_X E (dC E ad S zs rn dy bn cn tn))) (va_Qi (fun (r : Int32) (_ : Unit) => r = S 18 ((jd * 6 + jr) * 3 + jw)) (fun _ _ => True) (fun _ : Nat => False)) 1 6 (fun _ : Nat => False) := by
  have h := vx_noX (kX4_bulletin l hlt E ad S zs rn dy bn cn tn (nI jd) (nI jr) (nI jw) hrn hdy hz) (fun u hu => hu.2 (hu.1.trans (tBul0 hd hr (hz _ hd) hw)))
  try rw [nI_clamp (show jd < 2 ^ 31 by omega)] at h
  try rw [nI_clamp (show jr < 2 ^ 31 by omega)] at h
  try rw [nI_clamp (show jw < 2 ^ 31 by omega)] at h
  exact vx_impi h (fun r u q => q.2)
set_option maxHeartbeats 1000000 in
theorem n_see (l : Launch) (hlt : l.stackTraces = false) (E : ev_T) (ad : Nat → Nat) (S : Nat → Nat → Int32) (zs : Nat → Nat) (rn dy bn cn tn : Nat) (jr : Nat) (js : Nat) (jz : Nat) (sz : Nat) (hrn : rn ≤ 6) (hdy : dy ≤ 60) (hcn : cn ≤ 200) (hj : jr < rn) (hs : js < 12) (hz1 : 1 ≤ jz) (hz5 : jz ≤ 5) (hc : cn < 200) : Met l yX4_see wsX4_see ({ frames := 7, cells := 4, slots := 24, locals := 103 } : Room) (va_Pc [.ref (ad 0), .int (nI jr), .int (nI js), .int (nI jz)] (pr_Y E (dC E ad S zs rn dy bn cn tn) sz)) (va_Qi (fun (r : Int32) (_ : Unit) => True) (fun _ t => va_P E.1 vwCl (dC E ad (va_up (va_up (va_up (va_up S 20 (upd (S 20) cn (nI dy))) 21 (upd (S 21) cn (nI jr))) 22 (upd (S 22) cn (nI js))) 23 (upd (S 23) (dy * 6 + jr) (S 23 (dy * 6 + jr) + nI (jz * jz)))) zs rn dy bn (cn + 1) tn) t.heap) (va_A (dC E ad S zs rn dy bn cn tn) sz)) 4 24 (va_A (dC E ad S zs rn dy bn cn tn) sz) := by
  have h := vx_noX (kX4_see l hlt E ad S zs rn dy bn cn tn (nI jr) (nI js) (nI jz) sz hrn hdy hcn) (fun u hu => hu.2 (hu.1.trans (tSee0 hj hs hz1 hz5 hrn hc)))
  try rw [nI_clamp (show jr < 2 ^ 31 by omega)] at h
  try rw [nI_clamp (show js < 2 ^ 31 by omega)] at h
  try rw [nI_clamp (show jz < 2 ^ 31 by omega)] at h
  exact vx_impi h (fun r u q => trivial)
set_option maxHeartbeats 1000000 in
theorem n_borneOut (l : Launch) (hlt : l.stackTraces = false) (E : ev_T) (ad : Nat → Nat) (S : Nat → Nat → Int32) (zs : Nat → Nat) (rn dy bn cn tn : Nat) (xh : Int32) (hrn : rn ≤ 6) (hdy : dy ≤ 60) (hz : ∀ k, k ≤ 60 → zs k ≤ 6) (hlv : ∀ d r, d ≤ 60 → r < zs d → 1 ≤ lvS S d r ∧ lvS S d r ≤ 5 ∧ S 18 ((d * 6 + r) * 3 + 0) = nI (lvS S d r)) (hh : tBor xh = 0) : Met l yX4_borneOut wsX4_borneOut ({ frames := 6, cells := 1, slots := 6, locals := 82 } : Room) (va_Pc [.ref (ad 0), .int xh] (pr_X E (dC E ad S zs rn dy bn cn tn))) (va_Qi (fun (r : Int32) (_ : Unit) => r = bcD S zs rn xh (dy + 1)) (fun _ _ => True) (fun _ : Nat => False)) 1 6 (fun _ : Nat => False) := by
  have h := vx_noX (kX4_borneOut l hlt E ad S zs rn dy bn cn tn xh hrn hdy hz hlv) (fun u hu => hu.2 (hu.1.trans (hh)))
  exact vx_impi h (fun r u q => q.2)
set_option maxHeartbeats 1000000 in
theorem n_inCore (l : Launch) (hlt : l.stackTraces = false) (E : ev_T) (ad : Nat → Nat) (S : Nat → Nat → Int32) (zs : Nat → Nat) (rn dy bn cn tn : Nat) (jr : Nat) (hrn : rn ≤ 6) (hdy : dy ≤ 60) (hz : ∀ k, k ≤ 60 → zs k ≤ 6) (hcn : cn ≤ 200) (hj : jr < rn) : Met l yX4_inCore wsX4_inCore ({ frames := 7, cells := 1, slots := 6, locals := 103 } : Room) (va_Pc [.ref (ad 0), .int (nI jr)] (pr_X E (dC E ad S zs rn dy bn cn tn))) (va_Qd (fun (r : UInt64) (_ : Unit) => r = icR S zs jr cn) (fun _ _ => True) (fun _ : Nat => False)) 1 6 (fun _ : Nat => False) := by
  have h := vx_noX (kX4_inCore l hlt E ad S zs rn dy bn cn tn (nI jr) hrn hdy hz hcn) (fun u hu => hu.2 (hu.1.trans (tReg0 hj hrn)))
  try rw [nI_clamp (show jr < 2 ^ 31 by omega)] at h
  exact vx_impd h (fun r u q => q.2)
set_option maxHeartbeats 1000000 in
theorem n_end (l : Launch) (hlt : l.stackTraces = false) (E : ev_T) (ad : Nat → Nat) (S : Nat → Nat → Int32) (zs : Nat → Nat) (rn dy bn cn tn : Nat) (sz : Nat) (hrn : rn ≤ 6) (hdy : dy ≤ 60) (hd : dy < 60) : Met l yX4_end wsX4_end ({ frames := 6, cells := 1, slots := 6, locals := 112 } : Room) (va_Pc [.ref (ad 0)] (pr_Y E (dC E ad S zs rn dy bn cn tn) sz)) (va_Qi (fun (r : Int32) (_ : Unit) => True) (fun _ t => va_P E.1 vwCl (dC E ad (dES S rn) zs rn (dy + 1) bn cn tn) t.heap) (va_A (dC E ad S zs rn dy bn cn tn) sz)) 1 6 (va_A (dC E ad S zs rn dy bn cn tn) sz) := by
  have h := vx_noX (kX4_end l hlt E ad S zs rn dy bn cn tn sz hrn hdy) (fun u hu => hu.2 (hu.1.trans (tEnd0 hd)))
  exact vx_impi h (fun r u q => trivial)
