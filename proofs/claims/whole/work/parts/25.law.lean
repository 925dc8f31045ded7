/-! the law's own methods: a call of the desk, its exceptions as codes, its answer in out[0] -/
def oL (E : ev_T) (o0 : Nat) (f : Nat → Int64) : Nat × va_E := (o0, .inl (E.2.1 3, 1, .inr (.inl f)))
def oD (E : ev_T) (o0 : Nat) (f : Nat → UInt64) : Nat × va_E := (o0, .inl (E.2.1 4, 1, .inr (.inr (.inr (.inl f)))))
theorem mz_ofWH {l : Launch} {y : MethodName} {ws ws' : List Cond} {rm : Room} {Pc : Array Value → State → Prop} {Qc : Array Value → State → Outcome → State → Prop} {mc ms : Nat} {free : Addr → Prop} {cc : ByteArray} {maxL : Nat} {ret : Option FieldType} {hh : List (Nat × Nat × Nat × Nat)}
    (hy : plainName y.cls = true) (hw : ws = Cond.codeWith y cc maxL ret hh :: ws')
    (body : ∀ p e s m args below meth c s₁, BodyLoose p l y (headSpec ws rm) cc maxL ret e s m args below meth c s₁ → c.maxLocals = maxL → Pc args s → c.exceptionTable.toList = tableOf hh →
      W p l e (headSpec ws rm).room s m args below meth c s.heap [] 0 0 (MQ below Qc args s mc ms free) (entryFrame m args maxL)) : Met l y ws rm Pc Qc mc ms free := by
  refine MetFree.of_bodyS (code := cc) (maxLocals := maxL) (ret := ret) hy ?_ ?_
  · intro args s m h hn
    obtain ⟨m9, meth, c, hn9, h1, h2, h3, h4, -, h5, h6, -⟩ := Cond.codeWith_spec (atoms_spec (ws := ws) h _ (by rw [hw]; exact List.mem_cons_self))
    cases hn.symm.trans hn9
    exact ⟨meth, c, h1, h2, h3, h4, h5, h6⟩
  · intro p e s m args below meth c s₁ B hml hP _
    have hh0 : s₁.heap = s.heap := by rw [B.state]; rfl
    have ht := vx_table (x := y) B (atoms_spec (ws := ws) B.pre _ (by rw [hw]; exact List.mem_cons_self))
    obtain ⟨t, a1, o, b1, b2, b3⟩ := body p e s m args below meth c s₁ B hml hP ht s₁ hh0 (Stand.of_body B)
    exact ⟨t, o, a1, b1, b2, ⟨b3.1, b3.2⟩⟩
theorem fr_l {D : va_G} {cl : List vw_C} {w r : va_W} {H : Heap} (h : va_P D cl (w ++ r) H) : va_P D cl w H := fun k q hk => h k q (by rw [List.getElem?_append_left (List.getElem?_eq_some_iff.mp hk).1]; exact hk)
theorem fr_at {w r : va_W} {k : Nat} {q : Nat × va_E} (hk : r[k]? = some q) : (w ++ r)[w.length + k]? = some q := by rw [List.getElem?_append_right (by omega), show w.length + k - w.length = k by omega]; exact hk
theorem fr_r {D : va_G} {cl : List vw_C} {w r : va_W} {H : Heap} (h : va_P D cl (w ++ r) H) : va_P D cl r H := fun _ q hk => h _ q (fr_at hk)
theorem fr_Dl {A : Nat → Prop} {w r : va_W} (h : va_D A (w ++ r)) : va_D A w :=
  ⟨fun i j p q hi hj e => h.1 i j p q (by rw [List.getElem?_append_left (List.getElem?_eq_some_iff.mp hi).1]; exact hi) (by rw [List.getElem?_append_left (List.getElem?_eq_some_iff.mp hj).1]; exact hj) e, fun k q hk => h.2 k q (by rw [List.getElem?_append_left (List.getElem?_eq_some_iff.mp hk).1]; exact hk)⟩
theorem fr_keep {A : Nat → Prop} {D : va_G} {cl : List vw_C} {w r : va_W} {H H1 : Heap} (hD : va_D A (w ++ r)) (hP : va_P D cl r H) (hk : ∀ q : Nat, q < H.size → ¬ va_A w H.size q → H1[q]? = H[q]?) : va_P D cl r H1 :=
  hP.kept fun k q hq => hk q.1 ((hP k q hq).lt) (by
    rintro (⟨j, e, hj⟩ | h)
    · have hl : j < w.length := (List.getElem?_eq_some_iff.mp hj).1
      have := hD.1 j (w.length + k) (q.1, e) q (by rw [List.getElem?_append_left hl]; exact hj) (fr_at hq) rfl
      omega
    · exact Nat.not_lt.mpr h ((hP k q hq).lt))
theorem fr_free {A : Nat → Prop} {w : va_W} {H0 H : Heap} {locs : List Loc} (hD : va_D A w) (hS : va_S A H0 H locs) (hA : ∀ q : Nat, H0.size ≤ q → A q) : ∀ q, va_A w H.size q → A q := by
  rintro q (⟨k, e, h⟩ | h)
  · exact hD.2 k _ h
  · exact hA q (Nat.le_trans hS.1 h)
theorem fr_call {A : Nat → Prop} {D : va_G} {cl : List vw_C} {w r w1 : va_W} {H H1 : Heap} (hD : va_D A (w ++ r)) (hP : va_P D cl (w ++ r) H) (hP1 : va_P D cl w1 H1) (e : w1.map (fun q => q.1) = w.map (fun q => q.1)) (hk : ∀ q : Nat, q < H.size → ¬ va_A w H.size q → H1[q]? = H[q]?) : va_P D cl (w1 ++ r) H1 ∧ va_D A (w1 ++ r) :=
  ⟨hP1.app (fr_keep hD (fr_r hP) hk), hD.same (by rw [List.map_append, List.map_append, e])⟩
theorem dC_fst (E : ev_T) (ad : Nat → Nat) (S S' : Nat → Nat → Int32) (zs zs' : Nat → Nat) (rn dy bn cn tn rn' dy' bn' cn' tn' : Nat) : (dC E ad S zs rn dy bn cn tn).map (fun q => q.1) = (dC E ad S' zs' rn' dy' bn' cn' tn').map (fun q => q.1) := by
  simp only [dC, oR, aR, List.map_cons, List.map_nil]
theorem ev_cast {E : ev_T} {args : Array Value} {s : State} (hE : ev_U E s) {X : String} (h : Cond.castable X X ∈ ev_X) : (Cond.castable X X).before args s = true := va_Nw.use (ev_X_face _ h).2 (hE.2.2.2.1 _ h)
theorem tAdd_le : ∀ a0, tAdd a0 ≤ 1 := by
  intros; unfold tAdd; (repeat' split) <;> decide
theorem tWea_le : ∀ a0 a1 a2 a3 a4 a5, tWea a0 a1 a2 a3 a4 a5 ≤ 2 := by
  intros; unfold tWea; (repeat' split) <;> decide
theorem tSec_le : ∀ a0 a1 a2 a3, tSec a0 a1 a2 a3 ≤ 1 := by
  intros; unfold tSec; (repeat' split) <;> decide
theorem tSet_le : ∀ a0 a1 a2 a3 a4, tSet a0 a1 a2 a3 a4 ≤ 2 := by
  intros; unfold tSet; (repeat' split) <;> decide
theorem tPrb_le : ∀ a0 a1 a2 a3, tPrb a0 a1 a2 a3 ≤ 1 := by
  intros; unfold tPrb; (repeat' split) <;> decide
theorem tDan_le : ∀ a0 a1 a2, tDan a0 a1 a2 ≤ 1 := by
  intros; unfold tDan; (repeat' split) <;> decide
theorem tReg_le : ∀ a0 a1, tReg a0 a1 ≤ 1 := by
  intros; unfold tReg; (repeat' split) <;> decide
theorem tEnd_le : ∀ a0, tEnd a0 ≤ 1 := by
  intros; unfold tEnd; (repeat' split) <;> decide
theorem tPub_le : ∀ a0 a1 a2, tPub a0 a1 a2 ≤ 1 := by
  intros; unfold tPub; (repeat' split) <;> decide
theorem tBul_le : ∀ a0 a1 a2 a3, tBul a0 a1 a2 a3 ≤ 1 := by
  intros; unfold tBul; (repeat' split) <;> decide
theorem tSee_le : ∀ a0 a1 a2 a3 a4, tSee a0 a1 a2 a3 a4 ≤ 3 := by
  intros; unfold tSee; (repeat' split) <;> decide
theorem tAct_le : ∀ a0 a1 a2 a3, tAct a0 a1 a2 a3 ≤ 1 := by
  intros; unfold tAct; (repeat' split) <;> decide
theorem tBor_le : ∀ a0, tBor a0 ≤ 1 := by
  intros; unfold tBor; (repeat' split) <;> decide
theorem tLeg_le : ∀ a0 a1 a2, tLeg a0 a1 a2 ≤ 2 := by
  intros; unfold tLeg; (repeat' split) <;> decide
theorem tRsk_le : ∀ a0 a1 a2 a3, tRsk a0 a1 a2 a3 ≤ 1 := by
  intros; unfold tRsk; (repeat' split) <;> decide
set_option maxHeartbeats 4000000 in
set_option maxRecDepth 100000 in
theorem kL_addRegion (l : Launch) (hlt : l.stackTraces = false) (E : ev_T) (ad : Nat → Nat) (S : Nat → Nat → Int32) (zs : Nat → Nat) (rn : Nat) (dy : Nat) (bn : Nat) (cn : Nat) (tn : Nat) (o0 : Nat) (f0 : Nat → Int64) (sz : Nat) (hrn : rn ≤ 6) (hdy : dy ≤ 60) : Met l yL_addRegion wsL_addRegion ({ frames := 7, cells := 1, slots := 6, locals := 102 } : Room) (va_Pc [.ref (ad 0), .ref o0] (pr_Y E ((dC E ad S zs rn dy bn cn tn) ++ [(oL E o0 f0)]) sz)) (va_Qi (fun (r : Int32) (k : Nat) => r = nI k ∧ k = tAdd rn) (fun k t => va_P E.1 vwCl (mo k ((dC E ad S zs (rn + 1) dy bn cn tn) ++ [(oL E o0 (vp_updL f0 0 (Int32.toInt64 (nI rn))))]) (fun _ => ((dC E ad S zs rn dy bn cn tn) ++ [(oL E o0 f0)]))) t.heap) (va_A ((dC E ad S zs rn dy bn cn tn) ++ [(oL E o0 f0)]) sz)) 1 6 (va_A ((dC E ad S zs rn dy bn cn tn) ++ [(oL E o0 f0)]) sz) := by
  refine mz_ofWH (cc := cL_addRegion) (maxL := 3) (ret := (some .int)) (by decide +kernel) rfl ?_
  intro p e s m args below meth c s₁ B hml hv htab
  obtain ⟨rfl, hsz, hP, hD0, hE, hU9⟩ := hv
  have hx := B.exec
  have hb := B.bytes
  have hr := B.returns
  have hts := atoms_spec (ws := wsL_addRegion) B.pre
  have hown : s.vm.findClass RL = some m.cls := findClass_of_methodNamed B.named
  have hlocks := B.notSynchronized
  subst hsz
  have hD : va_D (va_A ((dC E ad S zs rn dy bn cn tn) ++ [(oL E o0 f0)]) s.heap.size) ((dC E ad S zs rn dy bn cn tn) ++ [(oL E o0 f0)]) := hD0.self
  have hA : ∀ q : Nat, s.heap.size ≤ q → (va_A ((dC E ad S zs rn dy bn cn tn) ++ [(oL E o0 f0)]) s.heap.size) q := fun q h => Or.inr h
  refine mz_start (fun H locs hH hL => ?_)
  have hS : va_S (va_A ((dC E ad S zs rn dy bn cn tn) ++ [(oL E o0 f0)]) s.heap.size) s.heap H locs := by rw [hH, hL]; exact va_S.rf
  have cl_13 := hts (.classLink RL 13 "java/lang/IllegalStateException") (by decide +kernel)
  have hl := lv_entry ([.ref (ad 0), .ref o0]) (n := 3) (Nat.le_of_ble_eq_true rfl)
  rw [lg_entry_eq]
  generalize (lg_sl ([.ref (ad 0), .ref o0]) ++ List.replicate (3 - (lg_sl ([.ref (ad 0), .ref o0])).length) Slot.unset).toArray = ls at hl ⊢
  have hl : lv_has ls 3 [(0, .ref (ad 0)), (1, .ref o0)] := hl
  have hP : va_P E.1 vwCl ((dC E ad S zs rn dy bn cn tn) ++ [(oL E o0 f0)]) H := by rw [hH]; exact hP
  refine lv_aload_n hx hb dL_addRegion_0 rfl (lv_at hl 1 rfl) ?_
  refine lv_iconst (v := 0) hx hb dL_addRegion_1 (by decide) ?_
  refine lv_aload_n hx hb dL_addRegion_2 rfl (lv_at hl 0 rfl) ?_
  have hFc := fr_free (w := (dC E ad S zs rn dy bn cn tn)) (fr_Dl hD) hS hA
  refine vx_calli (vx_runV (As := []) (rest := [.int 0, .ref o0]) ⟨hx, hb, hml, hown, hts⟩ (kX4_addRegion l hlt E ad S zs rn dy bn cn tn H.size (by first | omega | assumption | (intro k h; have := hz k h; omega)) (by first | omega | assumption | (intro k h; have := hz k h; omega))) (cwV 0 hts gL_addRegion_X4_addRegion rfl rfl rfl (by decide +kernel) ⟨Nat.le_of_ble_eq_true rfl, Nat.le_of_ble_eq_true rfl⟩) ⟨fb_Y, va_recv hE.1 hP (ci := 4) (q0 := 0) rfl rfl, fun U hU hW => ⟨rfl, by rw [hU], (by rw [hU]; exact fr_l hP), (fr_Dl hD).weaken (fun _ _ _ _ => trivial), hE.warm hW, hU9.to hS hFc hU hW⟩⟩ rfl rfl hl.1 rfl (lv_room (Nat.le_of_ble_eq_true rfl)) dL_addRegion_3 ⟨by first | exact Nat.le_of_ble_eq_true rfl | (show _ ≤ 1; omega), by first | exact Nat.le_of_ble_eq_true rfl | (show _ ≤ 6; omega)⟩) hS (fun q _ h => hFc q h) hFc (fun q _ h => hFc q h)
    (fun Ex ce q9 u9 t H1 locs ht hvm hw hB hz1 hk1 hS hce hcv hcl => ?_) (fun r3_0 u t H1 locs ht hvm hw hB hz1 hk1 hS => ?_)
  · obtain ⟨hX, hB⟩ := hB
    rw [ht] at hB
    obtain ⟨hP, hD⟩ := fr_call hD hP hB rfl hk1
    generalize H1 = H at hP hS hce ⊢
    obtain ⟨hk9, hk0⟩ := hw
    have hle := tAdd_le rn
    rcases (show u9 = 1 from by omega) with rfl
    · have hX : Ex = "java/lang/IllegalStateException" := hX
      subst hX
      refine vx_catch (E := "java/lang/IllegalStateException") (name := "java/lang/IllegalStateException") hown [] (⟨0, 8, 11, 13⟩ : ExceptionTableEntry) [] (by rw [htab]; rfl) (fun z hz => nomatch hz) (by decide) (by decide) cl_13 (ev_cast hE (by decide +kernel)) hce hcv hcl ?_
      refine lv_astore_n (lv' := [(2, .ref q9), (0, .ref (ad 0)), (1, .ref o0)]) hx hb dL_addRegion_11 rfl hl (by decide) rfl (fun ls hl => ?_)
      refine lv_iconst (v := 1) hx hb dL_addRegion_12 (by decide) ?_
      have hB9 : va_P E.1 vwCl (mo 1 ((dC E ad S zs (rn + 1) dy bn cn tn) ++ [(oL E o0 (vp_updL f0 0 (Int32.toInt64 (nI rn))))]) (fun _ => ((dC E ad S zs rn dy bn cn tn) ++ [(oL E o0 f0)]))) H := hP
      exact W.iret (v := 1) hx hb hr (fun t ht hW => ⟨⟨_, 1, rfl, ⟨rfl, hk9⟩, by subst ht; exact hB9⟩, hS.F ht⟩) hS.2.2 dL_addRegion_13
  · skip
    rw [ht] at hB
    obtain ⟨hP, hD⟩ := fr_call hD hP hB (dC_fst _ _ _ _ _ _ _ _ _ _ _ _ _ _ _ _) hk1
    generalize H1 = H at hP hS ⊢
    obtain ⟨h_tc, hw⟩ := hw
    subst hw
    refine lv_i2l hx hb dL_addRegion_6 rfl ?_
    refine va_last (i := 0) hx hb hE.1 hP hD hS 27 3 rfl rfl (by unfold vp_in; decide) dL_addRegion_7 (fun H locs hP hD hS => ?_)
    rw [show Int32.toNatClampNeg (0 : Int32) = 0 from by decide] at hP hD
    have hP : va_P E.1 vwCl ((dC E ad S zs (rn + 1) dy bn cn tn) ++ [(oL E o0 (vp_updL f0 0 (Int32.toInt64 (nI rn))))]) H := hP
    have hD : va_D _ ((dC E ad S zs (rn + 1) dy bn cn tn) ++ [(oL E o0 (vp_updL f0 0 (Int32.toInt64 (nI rn))))]) := hD
    refine lv_goto (tgt := 14) hx hb dL_addRegion_8 (by decide) ?_
    refine lv_iconst (v := 0) hx hb dL_addRegion_14 (by decide) ?_
    have hB9 : va_P E.1 vwCl (mo 0 ((dC E ad S zs (rn + 1) dy bn cn tn) ++ [(oL E o0 (vp_updL f0 0 (Int32.toInt64 (nI rn))))]) (fun _ => ((dC E ad S zs rn dy bn cn tn) ++ [(oL E o0 f0)]))) H := hP
    exact W.iret (v := 0) hx hb hr (fun t ht hW => ⟨⟨_, 0, rfl, ⟨rfl, h_tc⟩, by subst ht; exact hB9⟩, hS.F ht⟩) hS.2.2 dL_addRegion_15
set_option maxHeartbeats 4000000 in
set_option maxRecDepth 100000 in
theorem kL_weather (l : Launch) (hlt : l.stackTraces = false) (E : ev_T) (ad : Nat → Nat) (S : Nat → Nat → Int32) (zs : Nat → Nat) (rn : Nat) (dy : Nat) (bn : Nat) (cn : Nat) (tn : Nat) (xr : Int32) (xn : Int32) (xw : Int32) (xf : Int32) (xt : Int32) (o0 : Nat) (f0 : Nat → Int64) (sz : Nat) (hrn : rn ≤ 6) (hdy : dy ≤ 60) : Met l yL_weather wsL_weather ({ frames := 8, cells := 2, slots := 12, locals := 132 } : Room) (va_Pc [.ref (ad 0), .int xr, .int xn, .int xw, .int xf, .int xt, .ref o0] (pr_Y E ((dC E ad S zs rn dy bn cn tn) ++ [(oL E o0 f0)]) sz)) (va_Qi (fun (r : Int32) (k : Nat) => r = nI k ∧ k = tWea xr xn xw xf xt rn) (fun k t => va_P E.1 vwCl (mo k ((dC E ad (va_up S (2 + 2 * (Int32.toNatClampNeg xr)) (fF 1 xn xw xf xt)) zs rn dy bn cn tn) ++ [(oL E o0 (vp_updL f0 0 (if (if (S (2 + 2 * (Int32.toNatClampNeg xr))) 1 = 0 then 1 else 0 : Int32) = 0 then 0 else 1)))]) (fun _ => ((dC E ad S zs rn dy bn cn tn) ++ [(oL E o0 f0)]))) t.heap) (va_A ((dC E ad S zs rn dy bn cn tn) ++ [(oL E o0 f0)]) sz)) 2 12 (va_A ((dC E ad S zs rn dy bn cn tn) ++ [(oL E o0 f0)]) sz) := by
  refine mz_ofWH (cc := cL_weather) (maxL := 8) (ret := (some .int)) (by decide +kernel) rfl ?_
  intro p e s m args below meth c s₁ B hml hv htab
  obtain ⟨rfl, hsz, hP, hD0, hE, hU9⟩ := hv
  have hx := B.exec
  have hb := B.bytes
  have hr := B.returns
  have hts := atoms_spec (ws := wsL_weather) B.pre
  have hown : s.vm.findClass RL = some m.cls := findClass_of_methodNamed B.named
  have hlocks := B.notSynchronized
  subst hsz
  have hD : va_D (va_A ((dC E ad S zs rn dy bn cn tn) ++ [(oL E o0 f0)]) s.heap.size) ((dC E ad S zs rn dy bn cn tn) ++ [(oL E o0 f0)]) := hD0.self
  have hA : ∀ q : Nat, s.heap.size ≤ q → (va_A ((dC E ad S zs rn dy bn cn tn) ++ [(oL E o0 f0)]) s.heap.size) q := fun q h => Or.inr h
  refine mz_start (fun H locs hH hL => ?_)
  have hS : va_S (va_A ((dC E ad S zs rn dy bn cn tn) ++ [(oL E o0 f0)]) s.heap.size) s.heap H locs := by rw [hH, hL]; exact va_S.rf
  have cl_19 := hts (.classLink RL 19 "java/lang/IndexOutOfBoundsException") (by decide +kernel)
  have cl_21 := hts (.classLink RL 21 "java/lang/IllegalArgumentException") (by decide +kernel)
  have hl := lv_entry ([.ref (ad 0), .int xr, .int xn, .int xw, .int xf, .int xt, .ref o0]) (n := 8) (Nat.le_of_ble_eq_true rfl)
  rw [lg_entry_eq]
  generalize (lg_sl ([.ref (ad 0), .int xr, .int xn, .int xw, .int xf, .int xt, .ref o0]) ++ List.replicate (8 - (lg_sl ([.ref (ad 0), .int xr, .int xn, .int xw, .int xf, .int xt, .ref o0])).length) Slot.unset).toArray = ls at hl ⊢
  have hl : lv_has ls 8 [(0, .ref (ad 0)), (1, .int xr), (2, .int xn), (3, .int xw), (4, .int xf), (5, .int xt), (6, .ref o0)] := hl
  have hP : va_P E.1 vwCl ((dC E ad S zs rn dy bn cn tn) ++ [(oL E o0 f0)]) H := by rw [hH]; exact hP
  refine lv_aload hx hb dL_weather_0 (lv_at hl 6 rfl) ?_
  refine lv_iconst (v := 0) hx hb dL_weather_2 (by decide) ?_
  refine lv_aload_n hx hb dL_weather_3 rfl (lv_at hl 0 rfl) ?_
  refine lv_iload_n hx hb dL_weather_4 rfl (lv_at hl 1 rfl) ?_
  refine lv_iload_n hx hb dL_weather_5 rfl (lv_at hl 2 rfl) ?_
  refine lv_iload_n hx hb dL_weather_6 rfl (lv_at hl 3 rfl) ?_
  refine lv_iload hx hb dL_weather_7 (lv_at hl 4 rfl) ?_
  refine lv_iload hx hb dL_weather_9 (lv_at hl 5 rfl) ?_
  have hFc := fr_free (w := (dC E ad S zs rn dy bn cn tn)) (fr_Dl hD) hS hA
  refine vx_calli (vx_runV (As := [.int xr, .int xn, .int xw, .int xf, .int xt]) (rest := [.int 0, .ref o0]) ⟨hx, hb, hml, hown, hts⟩ (kX4_weather l hlt E ad S zs rn dy bn cn tn xr xn xw xf xt H.size (by first | omega | assumption | (intro k h; have := hz k h; omega)) (by first | omega | assumption | (intro k h; have := hz k h; omega))) (cwV 5 hts gL_weather_X4_weather rfl rfl rfl (by decide +kernel) ⟨Nat.le_of_ble_eq_true rfl, Nat.le_of_ble_eq_true rfl⟩) ⟨fb_Y, va_recv hE.1 hP (ci := 4) (q0 := 0) rfl rfl, fun U hU hW => ⟨rfl, by rw [hU], (by rw [hU]; exact fr_l hP), (fr_Dl hD).weaken (fun _ _ _ _ => trivial), hE.warm hW, hU9.to hS hFc hU hW⟩⟩ rfl rfl hl.1 rfl (lv_room (Nat.le_of_ble_eq_true rfl)) dL_weather_11 ⟨by first | exact Nat.le_of_ble_eq_true rfl | (show _ ≤ 2; omega), by first | exact Nat.le_of_ble_eq_true rfl | (show _ ≤ 12; omega)⟩) hS (fun q _ h => hFc q h) hFc (fun q _ h => hFc q h)
    (fun Ex ce q9 u9 t H1 locs ht hvm hw hB hz1 hk1 hS hce hcv hcl => ?_) (fun r11_0 u t H1 locs ht hvm hw hB hz1 hk1 hS => ?_)
  · obtain ⟨hX, hB⟩ := hB
    rw [ht] at hB
    obtain ⟨hP, hD⟩ := fr_call hD hP hB rfl hk1
    generalize H1 = H at hP hS hce ⊢
    obtain ⟨hk9, hk0⟩ := hw
    have hle := tWea_le xr xn xw xf xt rn
    rcases (show u9 = 1 ∨ u9 = 2 from by omega) with rfl | rfl
    · have hX : Ex = "java/lang/IndexOutOfBoundsException" := hX
      subst hX
      refine vx_catch (E := "java/lang/IndexOutOfBoundsException") (name := "java/lang/IndexOutOfBoundsException") hown [] (⟨0, 23, 26, 19⟩ : ExceptionTableEntry) [(⟨0, 23, 30, 21⟩ : ExceptionTableEntry)] (by rw [htab]; rfl) (fun z hz => nomatch hz) (by decide) (by decide) cl_19 (ev_cast hE (by decide +kernel)) hce hcv hcl ?_
      refine lv_astore (lv' := [(7, .ref q9), (0, .ref (ad 0)), (1, .int xr), (2, .int xn), (3, .int xw), (4, .int xf), (5, .int xt), (6, .ref o0)]) hx hb dL_weather_26 hl (by decide) rfl (fun ls hl => ?_)
      refine lv_iconst (v := 1) hx hb dL_weather_28 (by decide) ?_
      have hB9 : va_P E.1 vwCl (mo 1 ((dC E ad (va_up S (2 + 2 * (Int32.toNatClampNeg xr)) (fF 1 xn xw xf xt)) zs rn dy bn cn tn) ++ [(oL E o0 (vp_updL f0 0 (if (if (S (2 + 2 * (Int32.toNatClampNeg xr))) 1 = 0 then 1 else 0 : Int32) = 0 then 0 else 1)))]) (fun _ => ((dC E ad S zs rn dy bn cn tn) ++ [(oL E o0 f0)]))) H := hP
      exact W.iret (v := 1) hx hb hr (fun t ht hW => ⟨⟨_, 1, rfl, ⟨rfl, hk9⟩, by subst ht; exact hB9⟩, hS.F ht⟩) hS.2.2 dL_weather_29
    · have hX : Ex = "java/lang/IllegalArgumentException" := hX
      subst hX
      refine vx_catch (E := "java/lang/IllegalArgumentException") (name := "java/lang/IllegalArgumentException") hown [(⟨0, 23, 26, 19⟩ : ExceptionTableEntry)] (⟨0, 23, 30, 21⟩ : ExceptionTableEntry) [] (by rw [htab]; rfl) (fun z hz => by rcases (show z = (⟨0, 23, 26, 19⟩ : ExceptionTableEntry) from by simpa using hz) with rfl <;> first | exact Or.inr ⟨by decide, _, cl_19, hE.2.2.2.2 ("java/lang/IllegalArgumentException", "java/lang/IndexOutOfBoundsException") (by decide +kernel)⟩) (by decide) (by decide) cl_21 (ev_cast hE (by decide +kernel)) hce hcv hcl ?_
      refine lv_astore (lv' := [(7, .ref q9), (0, .ref (ad 0)), (1, .int xr), (2, .int xn), (3, .int xw), (4, .int xf), (5, .int xt), (6, .ref o0)]) hx hb dL_weather_30 hl (by decide) rfl (fun ls hl => ?_)
      refine lv_iconst (v := 2) hx hb dL_weather_32 (by decide) ?_
      have hB9 : va_P E.1 vwCl (mo 2 ((dC E ad (va_up S (2 + 2 * (Int32.toNatClampNeg xr)) (fF 1 xn xw xf xt)) zs rn dy bn cn tn) ++ [(oL E o0 (vp_updL f0 0 (if (if (S (2 + 2 * (Int32.toNatClampNeg xr))) 1 = 0 then 1 else 0 : Int32) = 0 then 0 else 1)))]) (fun _ => ((dC E ad S zs rn dy bn cn tn) ++ [(oL E o0 f0)]))) H := hP
      exact W.iret (v := 2) hx hb hr (fun t ht hW => ⟨⟨_, 2, rfl, ⟨rfl, hk9⟩, by subst ht; exact hB9⟩, hS.F ht⟩) hS.2.2 dL_weather_33
  · skip
    rw [ht] at hB
    obtain ⟨hP, hD⟩ := fr_call hD hP hB (dC_fst _ _ _ _ _ _ _ _ _ _ _ _ _ _ _ _) hk1
    generalize H1 = H at hP hS ⊢
    obtain ⟨h_tc, hw⟩ := hw
    subst hw
    have KJ22 : ∀ (xv : Int64), xv = (if (if (S (2 + 2 * (Int32.toNatClampNeg xr))) 1 = 0 then 1 else 0 : Int32) = 0 then 0 else 1) → ∀ (H : Heap) (locs : List Loc) (ls : Array Slot), va_P E.1 vwCl ((dC E ad (va_up S (2 + 2 * (Int32.toNatClampNeg xr)) (fF 1 xn xw xf xt)) zs rn dy bn cn tn) ++ [(oL E o0 f0)]) H → va_D (va_A ((dC E ad S zs rn dy bn cn tn) ++ [(oL E o0 f0)]) s.heap.size) ((dC E ad (va_up S (2 + 2 * (Int32.toNatClampNeg xr)) (fF 1 xn xw xf xt)) zs rn dy bn cn tn) ++ [(oL E o0 f0)]) → va_S (va_A ((dC E ad S zs rn dy bn cn tn) ++ [(oL E o0 f0)]) s.heap.size) s.heap H locs → lv_has ls 8 [(0, .ref (ad 0)), (1, .int xr), (2, .int xn), (3, .int xw), (4, .int xf), (5, .int xt), (6, .ref o0)] → W p l e (headSpec wsL_weather ({ frames := 8, cells := 2, slots := 12, locals := 132 } : Room)).room s m [.ref (ad 0), .int xr, .int xn, .int xw, .int xf, .int xt, .ref o0].toArray below meth c H locs 2 12 (MQ below (va_Qi (fun (r : Int32) (k : Nat) => r = nI k ∧ k = tWea xr xn xw xf xt rn) (fun k t => va_P E.1 vwCl (mo k ((dC E ad (va_up S (2 + 2 * (Int32.toNatClampNeg xr)) (fF 1 xn xw xf xt)) zs rn dy bn cn tn) ++ [(oL E o0 (vp_updL f0 0 (if (if (S (2 + 2 * (Int32.toNatClampNeg xr))) 1 = 0 then 1 else 0 : Int32) = 0 then 0 else 1)))]) (fun _ => ((dC E ad S zs rn dy bn cn tn) ++ [(oL E o0 f0)]))) t.heap) (va_A ((dC E ad S zs rn dy bn cn tn) ++ [(oL E o0 f0)]) s.heap.size)) [.ref (ad 0), .int xr, .int xn, .int xw, .int xf, .int xt, .ref o0].toArray s 2 12 (va_A ((dC E ad S zs rn dy bn cn tn) ++ [(oL E o0 f0)]) s.heap.size)) (F0 m 22 ls [.long xv, .int 0, .ref o0]) := by
      intro xv exv H locs ls hP hD hS hl
      subst exv
      refine va_last (i := 0) hx hb hE.1 hP hD hS 27 3 rfl rfl (by unfold vp_in; decide) dL_weather_22 (fun H locs hP hD hS => ?_)
      rw [show Int32.toNatClampNeg (0 : Int32) = 0 from by decide] at hP hD
      have hP : va_P E.1 vwCl ((dC E ad (va_up S (2 + 2 * (Int32.toNatClampNeg xr)) (fF 1 xn xw xf xt)) zs rn dy bn cn tn) ++ [(oL E o0 (vp_updL f0 0 (if (if (S (2 + 2 * (Int32.toNatClampNeg xr))) 1 = 0 then 1 else 0 : Int32) = 0 then 0 else 1)))]) H := hP
      have hD : va_D _ ((dC E ad (va_up S (2 + 2 * (Int32.toNatClampNeg xr)) (fF 1 xn xw xf xt)) zs rn dy bn cn tn) ++ [(oL E o0 (vp_updL f0 0 (if (if (S (2 + 2 * (Int32.toNatClampNeg xr))) 1 = 0 then 1 else 0 : Int32) = 0 then 0 else 1)))]) := hD
      refine lv_goto (tgt := 34) hx hb dL_weather_23 (by decide) ?_
      refine lv_iconst (v := 0) hx hb dL_weather_34 (by decide) ?_
      have hB9 : va_P E.1 vwCl (mo 0 ((dC E ad (va_up S (2 + 2 * (Int32.toNatClampNeg xr)) (fF 1 xn xw xf xt)) zs rn dy bn cn tn) ++ [(oL E o0 (vp_updL f0 0 (if (if (S (2 + 2 * (Int32.toNatClampNeg xr))) 1 = 0 then 1 else 0 : Int32) = 0 then 0 else 1)))]) (fun _ => ((dC E ad S zs rn dy bn cn tn) ++ [(oL E o0 f0)]))) H := hP
      exact W.iret (v := 0) hx hb hr (fun t ht hW => ⟨⟨_, 0, rfl, ⟨rfl, h_tc⟩, by subst ht; exact hB9⟩, hS.F ht⟩) hS.2.2 dL_weather_35
    refine lv_if_eq (tgt := 21) hx hb dL_weather_14 (by decide) (fun c_14 => ?_) (fun c_14 => ?_)
    · refine lv_lconst (v := 0) hx hb dL_weather_21 (by decide) ?_
      exact KJ22 0 (by first | exact (if_pos c_14).symm | exact (if_neg c_14).symm) _ _ _ hP hD hS (lv_sub hl [0, 1, 2, 3, 4, 5, 6] rfl)
    · refine lv_lconst (v := 1) hx hb dL_weather_17 (by decide) ?_
      refine lv_goto (tgt := 22) hx hb dL_weather_18 (by decide) ?_
      exact KJ22 1 (by first | exact (if_pos c_14).symm | exact (if_neg c_14).symm) _ _ _ hP hD hS (lv_sub hl [0, 1, 2, 3, 4, 5, 6] rfl)
set_option maxHeartbeats 4000000 in
set_option maxRecDepth 100000 in
theorem kL_end (l : Launch) (hlt : l.stackTraces = false) (E : ev_T) (ad : Nat → Nat) (S : Nat → Nat → Int32) (zs : Nat → Nat) (rn : Nat) (dy : Nat) (bn : Nat) (cn : Nat) (tn : Nat) (o0 : Nat) (f0 : Nat → Int64) (sz : Nat) (hrn : rn ≤ 6) (hdy : dy ≤ 60) : Met l yL_end wsL_end ({ frames := 7, cells := 1, slots := 6, locals := 133 } : Room) (va_Pc [.ref (ad 0), .ref o0] (pr_Y E ((dC E ad S zs rn dy bn cn tn) ++ [(oL E o0 f0)]) sz)) (va_Qi (fun (r : Int32) (k : Nat) => r = nI k ∧ k = tEnd dy) (fun k t => va_P E.1 vwCl (mo k ((dC E ad (dES S rn) zs rn (dy + 1) bn cn tn) ++ [(oL E o0 (vp_updL f0 0 (Int32.toInt64 (nI (dy + 1)))))]) (fun _ => ((dC E ad S zs rn dy bn cn tn) ++ [(oL E o0 f0)]))) t.heap) (va_A ((dC E ad S zs rn dy bn cn tn) ++ [(oL E o0 f0)]) sz)) 1 6 (va_A ((dC E ad S zs rn dy bn cn tn) ++ [(oL E o0 f0)]) sz) := by
  refine mz_ofWH (cc := cL_end) (maxL := 3) (ret := (some .int)) (by decide +kernel) rfl ?_
  intro p e s m args below meth c s₁ B hml hv htab
  obtain ⟨rfl, hsz, hP, hD0, hE, hU9⟩ := hv
  have hx := B.exec
  have hb := B.bytes
  have hr := B.returns
  have hts := atoms_spec (ws := wsL_end) B.pre
  have hown : s.vm.findClass RL = some m.cls := findClass_of_methodNamed B.named
  have hlocks := B.notSynchronized
  subst hsz
  have hD : va_D (va_A ((dC E ad S zs rn dy bn cn tn) ++ [(oL E o0 f0)]) s.heap.size) ((dC E ad S zs rn dy bn cn tn) ++ [(oL E o0 f0)]) := hD0.self
  have hA : ∀ q : Nat, s.heap.size ≤ q → (va_A ((dC E ad S zs rn dy bn cn tn) ++ [(oL E o0 f0)]) s.heap.size) q := fun q h => Or.inr h
  refine mz_start (fun H locs hH hL => ?_)
  have hS : va_S (va_A ((dC E ad S zs rn dy bn cn tn) ++ [(oL E o0 f0)]) s.heap.size) s.heap H locs := by rw [hH, hL]; exact va_S.rf
  have cl_13 := hts (.classLink RL 13 "java/lang/IllegalStateException") (by decide +kernel)
  have hl := lv_entry ([.ref (ad 0), .ref o0]) (n := 3) (Nat.le_of_ble_eq_true rfl)
  rw [lg_entry_eq]
  generalize (lg_sl ([.ref (ad 0), .ref o0]) ++ List.replicate (3 - (lg_sl ([.ref (ad 0), .ref o0])).length) Slot.unset).toArray = ls at hl ⊢
  have hl : lv_has ls 3 [(0, .ref (ad 0)), (1, .ref o0)] := hl
  have hP : va_P E.1 vwCl ((dC E ad S zs rn dy bn cn tn) ++ [(oL E o0 f0)]) H := by rw [hH]; exact hP
  refine lv_aload_n hx hb dL_end_0 rfl (lv_at hl 1 rfl) ?_
  refine lv_iconst (v := 0) hx hb dL_end_1 (by decide) ?_
  refine lv_aload_n hx hb dL_end_2 rfl (lv_at hl 0 rfl) ?_
  have hFc := fr_free (w := (dC E ad S zs rn dy bn cn tn)) (fr_Dl hD) hS hA
  refine vx_calli (vx_runV (As := []) (rest := [.int 0, .ref o0]) ⟨hx, hb, hml, hown, hts⟩ (kX4_end l hlt E ad S zs rn dy bn cn tn H.size (by first | omega | assumption | (intro k h; have := hz k h; omega)) (by first | omega | assumption | (intro k h; have := hz k h; omega))) (cwV 0 hts gL_end_X4_end rfl rfl rfl (by decide +kernel) ⟨Nat.le_of_ble_eq_true rfl, Nat.le_of_ble_eq_true rfl⟩) ⟨fb_Y, va_recv hE.1 hP (ci := 4) (q0 := 0) rfl rfl, fun U hU hW => ⟨rfl, by rw [hU], (by rw [hU]; exact fr_l hP), (fr_Dl hD).weaken (fun _ _ _ _ => trivial), hE.warm hW, hU9.to hS hFc hU hW⟩⟩ rfl rfl hl.1 rfl (lv_room (Nat.le_of_ble_eq_true rfl)) dL_end_3 ⟨by first | exact Nat.le_of_ble_eq_true rfl | (show _ ≤ 1; omega), by first | exact Nat.le_of_ble_eq_true rfl | (show _ ≤ 6; omega)⟩) hS (fun q _ h => hFc q h) hFc (fun q _ h => hFc q h)
    (fun Ex ce q9 u9 t H1 locs ht hvm hw hB hz1 hk1 hS hce hcv hcl => ?_) (fun r3_0 u t H1 locs ht hvm hw hB hz1 hk1 hS => ?_)
  · obtain ⟨hX, hB⟩ := hB
    rw [ht] at hB
    obtain ⟨hP, hD⟩ := fr_call hD hP hB rfl hk1
    generalize H1 = H at hP hS hce ⊢
    obtain ⟨hk9, hk0⟩ := hw
    have hle := tEnd_le dy
    rcases (show u9 = 1 from by omega) with rfl
    · have hX : Ex = "java/lang/IllegalStateException" := hX
      subst hX
      refine vx_catch (E := "java/lang/IllegalStateException") (name := "java/lang/IllegalStateException") hown [] (⟨0, 8, 11, 13⟩ : ExceptionTableEntry) [] (by rw [htab]; rfl) (fun z hz => nomatch hz) (by decide) (by decide) cl_13 (ev_cast hE (by decide +kernel)) hce hcv hcl ?_
      refine lv_astore_n (lv' := [(2, .ref q9), (0, .ref (ad 0)), (1, .ref o0)]) hx hb dL_end_11 rfl hl (by decide) rfl (fun ls hl => ?_)
      refine lv_iconst (v := 1) hx hb dL_end_12 (by decide) ?_
      have hB9 : va_P E.1 vwCl (mo 1 ((dC E ad (dES S rn) zs rn (dy + 1) bn cn tn) ++ [(oL E o0 (vp_updL f0 0 (Int32.toInt64 (nI (dy + 1)))))]) (fun _ => ((dC E ad S zs rn dy bn cn tn) ++ [(oL E o0 f0)]))) H := hP
      exact W.iret (v := 1) hx hb hr (fun t ht hW => ⟨⟨_, 1, rfl, ⟨rfl, hk9⟩, by subst ht; exact hB9⟩, hS.F ht⟩) hS.2.2 dL_end_13
  · skip
    rw [ht] at hB
    generalize hS9 : (dES S rn) = S9 at hB
    obtain ⟨hP, hD⟩ := fr_call hD hP hB (dC_fst _ _ _ _ _ _ _ _ _ _ _ _ _ _ _ _) hk1
    generalize H1 = H at hP hS ⊢
    obtain ⟨h_tc, hw⟩ := hw
    subst hw
    refine lv_i2l hx hb dL_end_6 rfl ?_
    refine va_last (i := 0) hx hb hE.1 hP hD hS 27 3 rfl rfl (by unfold vp_in; decide) dL_end_7 (fun H locs hP hD hS => ?_)
    rw [show Int32.toNatClampNeg (0 : Int32) = 0 from by decide] at hP hD
    have hP : va_P E.1 vwCl ((dC E ad S9 zs rn (dy + 1) bn cn tn) ++ [(oL E o0 (vp_updL f0 0 (Int32.toInt64 (nI (dy + 1)))))]) H := hP
    have hD : va_D _ ((dC E ad S9 zs rn (dy + 1) bn cn tn) ++ [(oL E o0 (vp_updL f0 0 (Int32.toInt64 (nI (dy + 1)))))]) := hD
    refine lv_goto (tgt := 14) hx hb dL_end_8 (by decide) ?_
    refine lv_iconst (v := 0) hx hb dL_end_14 (by decide) ?_
    subst hS9
    have hB9 : va_P E.1 vwCl (mo 0 ((dC E ad (dES S rn) zs rn (dy + 1) bn cn tn) ++ [(oL E o0 (vp_updL f0 0 (Int32.toInt64 (nI (dy + 1)))))]) (fun _ => ((dC E ad S zs rn dy bn cn tn) ++ [(oL E o0 f0)]))) H := hP
    exact W.iret (v := 0) hx hb hr (fun t ht hW => ⟨⟨_, 0, rfl, ⟨rfl, h_tc⟩, by subst ht; exact hB9⟩, hS.F ht⟩) hS.2.2 dL_end_15
set_option maxHeartbeats 4000000 in
set_option maxRecDepth 100000 in
theorem kL_sector (l : Launch) (hlt : l.stackTraces = false) (E : ev_T) (ad : Nat → Nat) (S : Nat → Nat → Int32) (zs : Nat → Nat) (rn : Nat) (dy : Nat) (bn : Nat) (cn : Nat) (tn : Nat) (xr : Int32) (xs : Int32) (xw : Int32) (o0 : Nat) (f0 : Nat → Int64) (sz : Nat) (hrn : rn ≤ 6) (hdy : dy ≤ 60) : Met l yL_sector wsL_sector ({ frames := 8, cells := 3, slots := 18, locals := 126 } : Room) (va_Pc [.ref (ad 0), .int xr, .int xs, .int xw, .ref o0] (pr_Y E ((dC E ad S zs rn dy bn cn tn) ++ [(oL E o0 f0)]) sz)) (va_Qi (fun (r : Int32) (k : Nat) => r = nI k ∧ k = tSec xr xs xw rn) (fun k t => va_P E.1 vwCl (mo k ((dC E ad S zs rn dy bn cn tn) ++ [(oL E o0 (vp_updL f0 0 (Int32.toInt64 (S (3 + 2 * (Int32.toNatClampNeg xr)) ((Int32.toNatClampNeg xs) * 5 + (Int32.toNatClampNeg xw))))))]) (fun _ => ((dC E ad S zs rn dy bn cn tn) ++ [(oL E o0 f0)]))) t.heap) (va_A ((dC E ad S zs rn dy bn cn tn) ++ [(oL E o0 f0)]) sz)) 3 18 (va_A ((dC E ad S zs rn dy bn cn tn) ++ [(oL E o0 f0)]) sz) := by
  refine mz_ofWH (cc := cL_sector) (maxL := 6) (ret := (some .int)) (by decide +kernel) rfl ?_
  intro p e s m args below meth c s₁ B hml hv htab
  obtain ⟨rfl, hsz, hP, hD0, hE, hU9⟩ := hv
  have hx := B.exec
  have hb := B.bytes
  have hr := B.returns
  have hts := atoms_spec (ws := wsL_sector) B.pre
  have hown : s.vm.findClass RL = some m.cls := findClass_of_methodNamed B.named
  have hlocks := B.notSynchronized
  subst hsz
  have hD : va_D (va_A ((dC E ad S zs rn dy bn cn tn) ++ [(oL E o0 f0)]) s.heap.size) ((dC E ad S zs rn dy bn cn tn) ++ [(oL E o0 f0)]) := hD0.self
  have hA : ∀ q : Nat, s.heap.size ≤ q → (va_A ((dC E ad S zs rn dy bn cn tn) ++ [(oL E o0 f0)]) s.heap.size) q := fun q h => Or.inr h
  refine mz_start (fun H locs hH hL => ?_)
  have hS : va_S (va_A ((dC E ad S zs rn dy bn cn tn) ++ [(oL E o0 f0)]) s.heap.size) s.heap H locs := by rw [hH, hL]; exact va_S.rf
  have cl_19 := hts (.classLink RL 19 "java/lang/IndexOutOfBoundsException") (by decide +kernel)
  have hl := lv_entry ([.ref (ad 0), .int xr, .int xs, .int xw, .ref o0]) (n := 6) (Nat.le_of_ble_eq_true rfl)
  rw [lg_entry_eq]
  generalize (lg_sl ([.ref (ad 0), .int xr, .int xs, .int xw, .ref o0]) ++ List.replicate (6 - (lg_sl ([.ref (ad 0), .int xr, .int xs, .int xw, .ref o0])).length) Slot.unset).toArray = ls at hl ⊢
  have hl : lv_has ls 6 [(0, .ref (ad 0)), (1, .int xr), (2, .int xs), (3, .int xw), (4, .ref o0)] := hl
  have hP : va_P E.1 vwCl ((dC E ad S zs rn dy bn cn tn) ++ [(oL E o0 f0)]) H := by rw [hH]; exact hP
  refine lv_aload hx hb dL_sector_0 (lv_at hl 4 rfl) ?_
  refine lv_iconst (v := 0) hx hb dL_sector_2 (by decide) ?_
  refine lv_aload_n hx hb dL_sector_3 rfl (lv_at hl 0 rfl) ?_
  refine lv_iload_n hx hb dL_sector_4 rfl (lv_at hl 1 rfl) ?_
  refine lv_iload_n hx hb dL_sector_5 rfl (lv_at hl 2 rfl) ?_
  refine lv_iload_n hx hb dL_sector_6 rfl (lv_at hl 3 rfl) ?_
  refine vx_calli (vx_runV (As := [.int xr, .int xs, .int xw]) (rest := [.int 0, .ref o0]) ⟨hx, hb, hml, hown, hts⟩ (kX4_sector l hlt E ad S zs rn dy bn cn tn xr xs xw (by first | omega | assumption | (intro k h; have := hz k h; omega)) (by first | omega | assumption | (intro k h; have := hz k h; omega))) (cwV 3 hts gL_sector_X4_sector rfl rfl rfl (by decide +kernel) ⟨Nat.le_of_ble_eq_true rfl, Nat.le_of_ble_eq_true rfl⟩) ⟨fb_X, va_recv hE.1 hP (ci := 4) (q0 := 0) rfl rfl, fun U hU hW => ⟨rfl, (by rw [hU]; exact fr_l hP), hE.warm hW, hU9.to hS (fun _ h => h.elim) hU hW⟩⟩ rfl rfl hl.1 rfl (lv_room (Nat.le_of_ble_eq_true rfl)) dL_sector_7 ⟨by first | exact Nat.le_of_ble_eq_true rfl | (show _ ≤ 3; omega), by first | exact Nat.le_of_ble_eq_true rfl | (show _ ≤ 18; omega)⟩) hS (fun q _ h => h.elim) (fun q h => h.elim) (fun q _ h => h.elim)
    (fun Ex ce q9 u9 t H1 locs ht hvm hw hB hz1 hk1 hS hce hcv hcl => ?_) (fun r7_0 u t H1 locs ht hvm hw hB hz1 hk1 hS => ?_)
  · have hP := hP.ro hk1
    have hX := hB
    generalize H1 = H at hP hS hce ⊢
    obtain ⟨hk9, hk0⟩ := hw
    have hle := tSec_le xr xs xw rn
    rcases (show u9 = 1 from by omega) with rfl
    · have hX : Ex = "java/lang/IndexOutOfBoundsException" := hX
      subst hX
      refine vx_catch (E := "java/lang/IndexOutOfBoundsException") (name := "java/lang/IndexOutOfBoundsException") hown [] (⟨0, 12, 15, 19⟩ : ExceptionTableEntry) [] (by rw [htab]; rfl) (fun z hz => nomatch hz) (by decide) (by decide) cl_19 (ev_cast hE (by decide +kernel)) hce hcv hcl ?_
      refine lv_astore (lv' := [(5, .ref q9), (0, .ref (ad 0)), (1, .int xr), (2, .int xs), (3, .int xw), (4, .ref o0)]) hx hb dL_sector_15 hl (by decide) rfl (fun ls hl => ?_)
      refine lv_iconst (v := 1) hx hb dL_sector_17 (by decide) ?_
      have hB9 : va_P E.1 vwCl (mo 1 ((dC E ad S zs rn dy bn cn tn) ++ [(oL E o0 (vp_updL f0 0 (Int32.toInt64 (S (3 + 2 * (Int32.toNatClampNeg xr)) ((Int32.toNatClampNeg xs) * 5 + (Int32.toNatClampNeg xw))))))]) (fun _ => ((dC E ad S zs rn dy bn cn tn) ++ [(oL E o0 f0)]))) H := hP
      exact W.iret (v := 1) hx hb hr (fun t ht hW => ⟨⟨_, 1, rfl, ⟨rfl, hk9⟩, by subst ht; exact hB9⟩, hS.F ht⟩) hS.2.2 dL_sector_18
  · skip
    have hP := hP.ro hk1
    generalize H1 = H at hP hS ⊢
    obtain ⟨h_tc, hw⟩ := hw
    subst hw
    refine lv_i2l hx hb dL_sector_10 rfl ?_
    refine va_last (i := 0) hx hb hE.1 hP hD hS 27 3 rfl rfl (by unfold vp_in; decide) dL_sector_11 (fun H locs hP hD hS => ?_)
    rw [show Int32.toNatClampNeg (0 : Int32) = 0 from by decide] at hP hD
    have hP : va_P E.1 vwCl ((dC E ad S zs rn dy bn cn tn) ++ [(oL E o0 (vp_updL f0 0 (Int32.toInt64 (S (3 + 2 * (Int32.toNatClampNeg xr)) ((Int32.toNatClampNeg xs) * 5 + (Int32.toNatClampNeg xw))))))]) H := hP
    have hD : va_D _ ((dC E ad S zs rn dy bn cn tn) ++ [(oL E o0 (vp_updL f0 0 (Int32.toInt64 (S (3 + 2 * (Int32.toNatClampNeg xr)) ((Int32.toNatClampNeg xs) * 5 + (Int32.toNatClampNeg xw))))))]) := hD
    refine lv_goto (tgt := 19) hx hb dL_sector_12 (by decide) ?_
    refine lv_iconst (v := 0) hx hb dL_sector_19 (by decide) ?_
    have hB9 : va_P E.1 vwCl (mo 0 ((dC E ad S zs rn dy bn cn tn) ++ [(oL E o0 (vp_updL f0 0 (Int32.toInt64 (S (3 + 2 * (Int32.toNatClampNeg xr)) ((Int32.toNatClampNeg xs) * 5 + (Int32.toNatClampNeg xw))))))]) (fun _ => ((dC E ad S zs rn dy bn cn tn) ++ [(oL E o0 f0)]))) H := hP
    exact W.iret (v := 0) hx hb hr (fun t ht hW => ⟨⟨_, 0, rfl, ⟨rfl, h_tc⟩, by subst ht; exact hB9⟩, hS.F ht⟩) hS.2.2 dL_sector_20
set_option maxHeartbeats 4000000 in
set_option maxRecDepth 100000 in
theorem kL_set (l : Launch) (hlt : l.stackTraces = false) (E : ev_T) (ad : Nat → Nat) (S : Nat → Nat → Int32) (zs : Nat → Nat) (rn : Nat) (dy : Nat) (bn : Nat) (cn : Nat) (tn : Nat) (xr : Int32) (xs : Int32) (xw : Int32) (xv : Int32) (o0 : Nat) (f0 : Nat → Int64) (sz : Nat) (hrn : rn ≤ 6) (hdy : dy ≤ 60) : Met l yL_set wsL_set ({ frames := 8, cells := 4, slots := 24, locals := 128 } : Room) (va_Pc [.ref (ad 0), .int xr, .int xs, .int xw, .int xv, .ref o0] (pr_Y E ((dC E ad S zs rn dy bn cn tn) ++ [(oL E o0 f0)]) sz)) (va_Qi (fun (r : Int32) (k : Nat) => r = nI k ∧ k = tSet xr xs xw xv rn) (fun k t => va_P E.1 vwCl (mo k ((dC E ad (va_up S (3 + 2 * (Int32.toNatClampNeg xr)) (pN (S (3 + 2 * (Int32.toNatClampNeg xr))) (Int32.toNatClampNeg xs) (Int32.toNatClampNeg xw) xv)) zs rn dy bn cn tn) ++ [(oL E o0 (vp_updL f0 0 (Int32.toInt64 (S (3 + 2 * (Int32.toNatClampNeg xr)) ((Int32.toNatClampNeg xs) * 5 + (Int32.toNatClampNeg xw))))))]) (fun _ => ((dC E ad S zs rn dy bn cn tn) ++ [(oL E o0 f0)]))) t.heap) (va_A ((dC E ad S zs rn dy bn cn tn) ++ [(oL E o0 f0)]) sz)) 4 24 (va_A ((dC E ad S zs rn dy bn cn tn) ++ [(oL E o0 f0)]) sz) := by
  refine mz_ofWH (cc := cL_set) (maxL := 7) (ret := (some .int)) (by decide +kernel) rfl ?_
  intro p e s m args below meth c s₁ B hml hv htab
  obtain ⟨rfl, hsz, hP, hD0, hE, hU9⟩ := hv
  have hx := B.exec
  have hb := B.bytes
  have hr := B.returns
  have hts := atoms_spec (ws := wsL_set) B.pre
  have hown : s.vm.findClass RL = some m.cls := findClass_of_methodNamed B.named
  have hlocks := B.notSynchronized
  subst hsz
  have hD : va_D (va_A ((dC E ad S zs rn dy bn cn tn) ++ [(oL E o0 f0)]) s.heap.size) ((dC E ad S zs rn dy bn cn tn) ++ [(oL E o0 f0)]) := hD0.self
  have hA : ∀ q : Nat, s.heap.size ≤ q → (va_A ((dC E ad S zs rn dy bn cn tn) ++ [(oL E o0 f0)]) s.heap.size) q := fun q h => Or.inr h
  refine mz_start (fun H locs hH hL => ?_)
  have hS : va_S (va_A ((dC E ad S zs rn dy bn cn tn) ++ [(oL E o0 f0)]) s.heap.size) s.heap H locs := by rw [hH, hL]; exact va_S.rf
  have cl_19 := hts (.classLink RL 19 "java/lang/IndexOutOfBoundsException") (by decide +kernel)
  have cl_21 := hts (.classLink RL 21 "java/lang/IllegalArgumentException") (by decide +kernel)
  have hl := lv_entry ([.ref (ad 0), .int xr, .int xs, .int xw, .int xv, .ref o0]) (n := 7) (Nat.le_of_ble_eq_true rfl)
  rw [lg_entry_eq]
  generalize (lg_sl ([.ref (ad 0), .int xr, .int xs, .int xw, .int xv, .ref o0]) ++ List.replicate (7 - (lg_sl ([.ref (ad 0), .int xr, .int xs, .int xw, .int xv, .ref o0])).length) Slot.unset).toArray = ls at hl ⊢
  have hl : lv_has ls 7 [(0, .ref (ad 0)), (1, .int xr), (2, .int xs), (3, .int xw), (4, .int xv), (5, .ref o0)] := hl
  have hP : va_P E.1 vwCl ((dC E ad S zs rn dy bn cn tn) ++ [(oL E o0 f0)]) H := by rw [hH]; exact hP
  refine lv_aload hx hb dL_set_0 (lv_at hl 5 rfl) ?_
  refine lv_iconst (v := 0) hx hb dL_set_2 (by decide) ?_
  refine lv_aload_n hx hb dL_set_3 rfl (lv_at hl 0 rfl) ?_
  refine lv_iload_n hx hb dL_set_4 rfl (lv_at hl 1 rfl) ?_
  refine lv_iload_n hx hb dL_set_5 rfl (lv_at hl 2 rfl) ?_
  refine lv_iload_n hx hb dL_set_6 rfl (lv_at hl 3 rfl) ?_
  refine lv_iload hx hb dL_set_7 (lv_at hl 4 rfl) ?_
  have hFc := fr_free (w := (dC E ad S zs rn dy bn cn tn)) (fr_Dl hD) hS hA
  refine vx_calli (vx_runV (As := [.int xr, .int xs, .int xw, .int xv]) (rest := [.int 0, .ref o0]) ⟨hx, hb, hml, hown, hts⟩ (kX4_set l hlt E ad S zs rn dy bn cn tn xr xs xw xv H.size (by first | omega | assumption | (intro k h; have := hz k h; omega)) (by first | omega | assumption | (intro k h; have := hz k h; omega))) (cwV 4 hts gL_set_X4_set rfl rfl rfl (by decide +kernel) ⟨Nat.le_of_ble_eq_true rfl, Nat.le_of_ble_eq_true rfl⟩) ⟨fb_Y, va_recv hE.1 hP (ci := 4) (q0 := 0) rfl rfl, fun U hU hW => ⟨rfl, by rw [hU], (by rw [hU]; exact fr_l hP), (fr_Dl hD).weaken (fun _ _ _ _ => trivial), hE.warm hW, hU9.to hS hFc hU hW⟩⟩ rfl rfl hl.1 rfl (lv_room (Nat.le_of_ble_eq_true rfl)) dL_set_9 ⟨by first | exact Nat.le_of_ble_eq_true rfl | (show _ ≤ 4; omega), by first | exact Nat.le_of_ble_eq_true rfl | (show _ ≤ 24; omega)⟩) hS (fun q _ h => hFc q h) hFc (fun q _ h => hFc q h)
    (fun Ex ce q9 u9 t H1 locs ht hvm hw hB hz1 hk1 hS hce hcv hcl => ?_) (fun r9_0 u t H1 locs ht hvm hw hB hz1 hk1 hS => ?_)
  · obtain ⟨hX, hB⟩ := hB
    rw [ht] at hB
    obtain ⟨hP, hD⟩ := fr_call hD hP hB rfl hk1
    generalize H1 = H at hP hS hce ⊢
    obtain ⟨hk9, hk0⟩ := hw
    have hle := tSet_le xr xs xw xv rn
    rcases (show u9 = 1 ∨ u9 = 2 from by omega) with rfl | rfl
    · have hX : Ex = "java/lang/IndexOutOfBoundsException" := hX
      subst hX
      refine vx_catch (E := "java/lang/IndexOutOfBoundsException") (name := "java/lang/IndexOutOfBoundsException") hown [] (⟨0, 14, 17, 19⟩ : ExceptionTableEntry) [(⟨0, 14, 21, 21⟩ : ExceptionTableEntry)] (by rw [htab]; rfl) (fun z hz => nomatch hz) (by decide) (by decide) cl_19 (ev_cast hE (by decide +kernel)) hce hcv hcl ?_
      refine lv_astore (lv' := [(6, .ref q9), (0, .ref (ad 0)), (1, .int xr), (2, .int xs), (3, .int xw), (4, .int xv), (5, .ref o0)]) hx hb dL_set_17 hl (by decide) rfl (fun ls hl => ?_)
      refine lv_iconst (v := 1) hx hb dL_set_19 (by decide) ?_
      have hB9 : va_P E.1 vwCl (mo 1 ((dC E ad (va_up S (3 + 2 * (Int32.toNatClampNeg xr)) (pN (S (3 + 2 * (Int32.toNatClampNeg xr))) (Int32.toNatClampNeg xs) (Int32.toNatClampNeg xw) xv)) zs rn dy bn cn tn) ++ [(oL E o0 (vp_updL f0 0 (Int32.toInt64 (S (3 + 2 * (Int32.toNatClampNeg xr)) ((Int32.toNatClampNeg xs) * 5 + (Int32.toNatClampNeg xw))))))]) (fun _ => ((dC E ad S zs rn dy bn cn tn) ++ [(oL E o0 f0)]))) H := hP
      exact W.iret (v := 1) hx hb hr (fun t ht hW => ⟨⟨_, 1, rfl, ⟨rfl, hk9⟩, by subst ht; exact hB9⟩, hS.F ht⟩) hS.2.2 dL_set_20
    · have hX : Ex = "java/lang/IllegalArgumentException" := hX
      subst hX
      refine vx_catch (E := "java/lang/IllegalArgumentException") (name := "java/lang/IllegalArgumentException") hown [(⟨0, 14, 17, 19⟩ : ExceptionTableEntry)] (⟨0, 14, 21, 21⟩ : ExceptionTableEntry) [] (by rw [htab]; rfl) (fun z hz => by rcases (show z = (⟨0, 14, 17, 19⟩ : ExceptionTableEntry) from by simpa using hz) with rfl <;> first | exact Or.inr ⟨by decide, _, cl_19, hE.2.2.2.2 ("java/lang/IllegalArgumentException", "java/lang/IndexOutOfBoundsException") (by decide +kernel)⟩) (by decide) (by decide) cl_21 (ev_cast hE (by decide +kernel)) hce hcv hcl ?_
      refine lv_astore (lv' := [(6, .ref q9), (0, .ref (ad 0)), (1, .int xr), (2, .int xs), (3, .int xw), (4, .int xv), (5, .ref o0)]) hx hb dL_set_21 hl (by decide) rfl (fun ls hl => ?_)
      refine lv_iconst (v := 2) hx hb dL_set_23 (by decide) ?_
      have hB9 : va_P E.1 vwCl (mo 2 ((dC E ad (va_up S (3 + 2 * (Int32.toNatClampNeg xr)) (pN (S (3 + 2 * (Int32.toNatClampNeg xr))) (Int32.toNatClampNeg xs) (Int32.toNatClampNeg xw) xv)) zs rn dy bn cn tn) ++ [(oL E o0 (vp_updL f0 0 (Int32.toInt64 (S (3 + 2 * (Int32.toNatClampNeg xr)) ((Int32.toNatClampNeg xs) * 5 + (Int32.toNatClampNeg xw))))))]) (fun _ => ((dC E ad S zs rn dy bn cn tn) ++ [(oL E o0 f0)]))) H := hP
      exact W.iret (v := 2) hx hb hr (fun t ht hW => ⟨⟨_, 2, rfl, ⟨rfl, hk9⟩, by subst ht; exact hB9⟩, hS.F ht⟩) hS.2.2 dL_set_24
  · skip
    rw [ht] at hB
    generalize hS9 : (va_up S (3 + 2 * (Int32.toNatClampNeg xr)) (pN (S (3 + 2 * (Int32.toNatClampNeg xr))) (Int32.toNatClampNeg xs) (Int32.toNatClampNeg xw) xv)) = S9 at hB
    obtain ⟨hP, hD⟩ := fr_call hD hP hB (dC_fst _ _ _ _ _ _ _ _ _ _ _ _ _ _ _ _) hk1
    generalize H1 = H at hP hS ⊢
    obtain ⟨h_tc, hw⟩ := hw
    subst hw
    refine lv_i2l hx hb dL_set_12 rfl ?_
    refine va_last (i := 0) hx hb hE.1 hP hD hS 27 3 rfl rfl (by unfold vp_in; decide) dL_set_13 (fun H locs hP hD hS => ?_)
    rw [show Int32.toNatClampNeg (0 : Int32) = 0 from by decide] at hP hD
    have hP : va_P E.1 vwCl ((dC E ad S9 zs rn dy bn cn tn) ++ [(oL E o0 (vp_updL f0 0 (Int32.toInt64 (S (3 + 2 * (Int32.toNatClampNeg xr)) ((Int32.toNatClampNeg xs) * 5 + (Int32.toNatClampNeg xw))))))]) H := hP
    have hD : va_D _ ((dC E ad S9 zs rn dy bn cn tn) ++ [(oL E o0 (vp_updL f0 0 (Int32.toInt64 (S (3 + 2 * (Int32.toNatClampNeg xr)) ((Int32.toNatClampNeg xs) * 5 + (Int32.toNatClampNeg xw))))))]) := hD
    refine lv_goto (tgt := 25) hx hb dL_set_14 (by decide) ?_
    refine lv_iconst (v := 0) hx hb dL_set_25 (by decide) ?_
    subst hS9
    have hB9 : va_P E.1 vwCl (mo 0 ((dC E ad (va_up S (3 + 2 * (Int32.toNatClampNeg xr)) (pN (S (3 + 2 * (Int32.toNatClampNeg xr))) (Int32.toNatClampNeg xs) (Int32.toNatClampNeg xw) xv)) zs rn dy bn cn tn) ++ [(oL E o0 (vp_updL f0 0 (Int32.toInt64 (S (3 + 2 * (Int32.toNatClampNeg xr)) ((Int32.toNatClampNeg xs) * 5 + (Int32.toNatClampNeg xw))))))]) (fun _ => ((dC E ad S zs rn dy bn cn tn) ++ [(oL E o0 f0)]))) H := hP
    exact W.iret (v := 0) hx hb hr (fun t ht hW => ⟨⟨_, 0, rfl, ⟨rfl, h_tc⟩, by subst ht; exact hB9⟩, hS.F ht⟩) hS.2.2 dL_set_26
set_option maxHeartbeats 4000000 in
set_option maxRecDepth 100000 in
theorem kL_problem (l : Launch) (hlt : l.stackTraces = false) (E : ev_T) (ad : Nat → Nat) (S : Nat → Nat → Int32) (zs : Nat → Nat) (rn : Nat) (dy : Nat) (bn : Nat) (cn : Nat) (tn : Nat) (xr : Int32) (xs : Int32) (xp : Int32) (o0 : Nat) (f0 : Nat → Int64) (sz : Nat) (hrn : rn ≤ 6) (hdy : dy ≤ 60) : Met l yL_problem wsL_problem ({ frames := 8, cells := 3, slots := 18, locals := 126 } : Room) (va_Pc [.ref (ad 0), .int xr, .int xs, .int xp, .ref o0] (pr_Y E ((dC E ad S zs rn dy bn cn tn) ++ [(oL E o0 f0)]) sz)) (va_Qi (fun (r : Int32) (k : Nat) => r = nI k ∧ k = tPrb xr xs xp rn) (fun k t => va_P E.1 vwCl (mo k ((dC E ad S zs rn dy bn cn tn) ++ [(oL E o0 (vp_updL f0 0 (Int32.toInt64 (prR (rw5 (S (3 + 2 * (Int32.toNatClampNeg xr))) (Int32.toNatClampNeg xs)) (Int32.toNatClampNeg xp)))))]) (fun _ => ((dC E ad S zs rn dy bn cn tn) ++ [(oL E o0 f0)]))) t.heap) (va_A ((dC E ad S zs rn dy bn cn tn) ++ [(oL E o0 f0)]) sz)) 3 18 (va_A ((dC E ad S zs rn dy bn cn tn) ++ [(oL E o0 f0)]) sz) := by
  refine mz_ofWH (cc := cL_problem) (maxL := 6) (ret := (some .int)) (by decide +kernel) rfl ?_
  intro p e s m args below meth c s₁ B hml hv htab
  obtain ⟨rfl, hsz, hP, hD0, hE, hU9⟩ := hv
  have hx := B.exec
  have hb := B.bytes
  have hr := B.returns
  have hts := atoms_spec (ws := wsL_problem) B.pre
  have hown : s.vm.findClass RL = some m.cls := findClass_of_methodNamed B.named
  have hlocks := B.notSynchronized
  subst hsz
  have hD : va_D (va_A ((dC E ad S zs rn dy bn cn tn) ++ [(oL E o0 f0)]) s.heap.size) ((dC E ad S zs rn dy bn cn tn) ++ [(oL E o0 f0)]) := hD0.self
  have hA : ∀ q : Nat, s.heap.size ≤ q → (va_A ((dC E ad S zs rn dy bn cn tn) ++ [(oL E o0 f0)]) s.heap.size) q := fun q h => Or.inr h
  refine mz_start (fun H locs hH hL => ?_)
  have hS : va_S (va_A ((dC E ad S zs rn dy bn cn tn) ++ [(oL E o0 f0)]) s.heap.size) s.heap H locs := by rw [hH, hL]; exact va_S.rf
  have cl_19 := hts (.classLink RL 19 "java/lang/IndexOutOfBoundsException") (by decide +kernel)
  have hl := lv_entry ([.ref (ad 0), .int xr, .int xs, .int xp, .ref o0]) (n := 6) (Nat.le_of_ble_eq_true rfl)
  rw [lg_entry_eq]
  generalize (lg_sl ([.ref (ad 0), .int xr, .int xs, .int xp, .ref o0]) ++ List.replicate (6 - (lg_sl ([.ref (ad 0), .int xr, .int xs, .int xp, .ref o0])).length) Slot.unset).toArray = ls at hl ⊢
  have hl : lv_has ls 6 [(0, .ref (ad 0)), (1, .int xr), (2, .int xs), (3, .int xp), (4, .ref o0)] := hl
  have hP : va_P E.1 vwCl ((dC E ad S zs rn dy bn cn tn) ++ [(oL E o0 f0)]) H := by rw [hH]; exact hP
  refine lv_aload hx hb dL_problem_0 (lv_at hl 4 rfl) ?_
  refine lv_iconst (v := 0) hx hb dL_problem_2 (by decide) ?_
  refine lv_aload_n hx hb dL_problem_3 rfl (lv_at hl 0 rfl) ?_
  refine lv_iload_n hx hb dL_problem_4 rfl (lv_at hl 1 rfl) ?_
  refine lv_iload_n hx hb dL_problem_5 rfl (lv_at hl 2 rfl) ?_
  refine lv_iload_n hx hb dL_problem_6 rfl (lv_at hl 3 rfl) ?_
  refine vx_calli (vx_runV (As := [.int xr, .int xs, .int xp]) (rest := [.int 0, .ref o0]) ⟨hx, hb, hml, hown, hts⟩ (kX4_problem l hlt E ad S zs rn dy bn cn tn xr xs xp (by first | omega | assumption | (intro k h; have := hz k h; omega)) (by first | omega | assumption | (intro k h; have := hz k h; omega))) (cwV 3 hts gL_problem_X4_problem rfl rfl rfl (by decide +kernel) ⟨Nat.le_of_ble_eq_true rfl, Nat.le_of_ble_eq_true rfl⟩) ⟨fb_X, va_recv hE.1 hP (ci := 4) (q0 := 0) rfl rfl, fun U hU hW => ⟨rfl, (by rw [hU]; exact fr_l hP), hE.warm hW, hU9.to hS (fun _ h => h.elim) hU hW⟩⟩ rfl rfl hl.1 rfl (lv_room (Nat.le_of_ble_eq_true rfl)) dL_problem_7 ⟨by first | exact Nat.le_of_ble_eq_true rfl | (show _ ≤ 3; omega), by first | exact Nat.le_of_ble_eq_true rfl | (show _ ≤ 18; omega)⟩) hS (fun q _ h => h.elim) (fun q h => h.elim) (fun q _ h => h.elim)
    (fun Ex ce q9 u9 t H1 locs ht hvm hw hB hz1 hk1 hS hce hcv hcl => ?_) (fun r7_0 u t H1 locs ht hvm hw hB hz1 hk1 hS => ?_)
  · have hP := hP.ro hk1
    have hX := hB
    generalize H1 = H at hP hS hce ⊢
    obtain ⟨hk9, hk0⟩ := hw
    have hle := tPrb_le xr xs xp rn
    rcases (show u9 = 1 from by omega) with rfl
    · have hX : Ex = "java/lang/IndexOutOfBoundsException" := hX
      subst hX
      refine vx_catch (E := "java/lang/IndexOutOfBoundsException") (name := "java/lang/IndexOutOfBoundsException") hown [] (⟨0, 12, 15, 19⟩ : ExceptionTableEntry) [] (by rw [htab]; rfl) (fun z hz => nomatch hz) (by decide) (by decide) cl_19 (ev_cast hE (by decide +kernel)) hce hcv hcl ?_
      refine lv_astore (lv' := [(5, .ref q9), (0, .ref (ad 0)), (1, .int xr), (2, .int xs), (3, .int xp), (4, .ref o0)]) hx hb dL_problem_15 hl (by decide) rfl (fun ls hl => ?_)
      refine lv_iconst (v := 1) hx hb dL_problem_17 (by decide) ?_
      have hB9 : va_P E.1 vwCl (mo 1 ((dC E ad S zs rn dy bn cn tn) ++ [(oL E o0 (vp_updL f0 0 (Int32.toInt64 (prR (rw5 (S (3 + 2 * (Int32.toNatClampNeg xr))) (Int32.toNatClampNeg xs)) (Int32.toNatClampNeg xp)))))]) (fun _ => ((dC E ad S zs rn dy bn cn tn) ++ [(oL E o0 f0)]))) H := hP
      exact W.iret (v := 1) hx hb hr (fun t ht hW => ⟨⟨_, 1, rfl, ⟨rfl, hk9⟩, by subst ht; exact hB9⟩, hS.F ht⟩) hS.2.2 dL_problem_18
  · skip
    have hP := hP.ro hk1
    generalize H1 = H at hP hS ⊢
    obtain ⟨h_tc, hw⟩ := hw
    subst hw
    refine lv_i2l hx hb dL_problem_10 rfl ?_
    refine va_last (i := 0) hx hb hE.1 hP hD hS 27 3 rfl rfl (by unfold vp_in; decide) dL_problem_11 (fun H locs hP hD hS => ?_)
    rw [show Int32.toNatClampNeg (0 : Int32) = 0 from by decide] at hP hD
    have hP : va_P E.1 vwCl ((dC E ad S zs rn dy bn cn tn) ++ [(oL E o0 (vp_updL f0 0 (Int32.toInt64 (prR (rw5 (S (3 + 2 * (Int32.toNatClampNeg xr))) (Int32.toNatClampNeg xs)) (Int32.toNatClampNeg xp)))))]) H := hP
    have hD : va_D _ ((dC E ad S zs rn dy bn cn tn) ++ [(oL E o0 (vp_updL f0 0 (Int32.toInt64 (prR (rw5 (S (3 + 2 * (Int32.toNatClampNeg xr))) (Int32.toNatClampNeg xs)) (Int32.toNatClampNeg xp)))))]) := hD
    refine lv_goto (tgt := 19) hx hb dL_problem_12 (by decide) ?_
    refine lv_iconst (v := 0) hx hb dL_problem_19 (by decide) ?_
    have hB9 : va_P E.1 vwCl (mo 0 ((dC E ad S zs rn dy bn cn tn) ++ [(oL E o0 (vp_updL f0 0 (Int32.toInt64 (prR (rw5 (S (3 + 2 * (Int32.toNatClampNeg xr))) (Int32.toNatClampNeg xs)) (Int32.toNatClampNeg xp)))))]) (fun _ => ((dC E ad S zs rn dy bn cn tn) ++ [(oL E o0 f0)]))) H := hP
    exact W.iret (v := 0) hx hb hr (fun t ht hW => ⟨⟨_, 0, rfl, ⟨rfl, h_tc⟩, by subst ht; exact hB9⟩, hS.F ht⟩) hS.2.2 dL_problem_20
set_option maxHeartbeats 4000000 in
set_option maxRecDepth 100000 in
theorem kL_danger (l : Launch) (hlt : l.stackTraces = false) (E : ev_T) (ad : Nat → Nat) (S : Nat → Nat → Int32) (zs : Nat → Nat) (rn : Nat) (dy : Nat) (bn : Nat) (cn : Nat) (tn : Nat) (xr : Int32) (xs : Int32) (xb : Int32) (o0 : Nat) (f0 : Nat → Int64) (sz : Nat) (hrn : rn ≤ 6) (hdy : dy ≤ 60) : Met l yL_danger wsL_danger ({ frames := 8, cells := 2, slots := 12, locals := 127 } : Room) (va_Pc [.ref (ad 0), .int xr, .int xs, .int xb, .ref o0] (pr_Y E ((dC E ad S zs rn dy bn cn tn) ++ [(oL E o0 f0)]) sz)) (va_Qi (fun (r : Int32) (k : Nat) => r = nI k ∧ k = tDan xr xs rn) (fun k t => va_P E.1 vwCl (mo k ((dC E ad S zs rn dy bn cn tn) ++ [(oL E o0 (vp_updL f0 0 (Int32.toInt64 (if xb = 0 then dngA (rw5 (S (3 + 2 * (Int32.toNatClampNeg xr))) (Int32.toNatClampNeg xs)) else lvD (dngA (rw5 (S (3 + 2 * (Int32.toNatClampNeg xr))) (Int32.toNatClampNeg xs)))))))]) (fun _ => ((dC E ad S zs rn dy bn cn tn) ++ [(oL E o0 f0)]))) t.heap) (va_A ((dC E ad S zs rn dy bn cn tn) ++ [(oL E o0 f0)]) sz)) 2 12 (va_A ((dC E ad S zs rn dy bn cn tn) ++ [(oL E o0 f0)]) sz) := by
  refine mz_ofWH (cc := cL_danger) (maxL := 6) (ret := (some .int)) (by decide +kernel) rfl ?_
  intro p e s m args below meth c s₁ B hml hv htab
  obtain ⟨rfl, hsz, hP, hD0, hE, hU9⟩ := hv
  have hx := B.exec
  have hb := B.bytes
  have hr := B.returns
  have hts := atoms_spec (ws := wsL_danger) B.pre
  have hown : s.vm.findClass RL = some m.cls := findClass_of_methodNamed B.named
  have hlocks := B.notSynchronized
  subst hsz
  have hD : va_D (va_A ((dC E ad S zs rn dy bn cn tn) ++ [(oL E o0 f0)]) s.heap.size) ((dC E ad S zs rn dy bn cn tn) ++ [(oL E o0 f0)]) := hD0.self
  have hA : ∀ q : Nat, s.heap.size ≤ q → (va_A ((dC E ad S zs rn dy bn cn tn) ++ [(oL E o0 f0)]) s.heap.size) q := fun q h => Or.inr h
  refine mz_start (fun H locs hH hL => ?_)
  have hS : va_S (va_A ((dC E ad S zs rn dy bn cn tn) ++ [(oL E o0 f0)]) s.heap.size) s.heap H locs := by rw [hH, hL]; exact va_S.rf
  have cl_19 := hts (.classLink RL 19 "java/lang/IndexOutOfBoundsException") (by decide +kernel)
  have hl := lv_entry ([.ref (ad 0), .int xr, .int xs, .int xb, .ref o0]) (n := 6) (Nat.le_of_ble_eq_true rfl)
  rw [lg_entry_eq]
  generalize (lg_sl ([.ref (ad 0), .int xr, .int xs, .int xb, .ref o0]) ++ List.replicate (6 - (lg_sl ([.ref (ad 0), .int xr, .int xs, .int xb, .ref o0])).length) Slot.unset).toArray = ls at hl ⊢
  have hl : lv_has ls 6 [(0, .ref (ad 0)), (1, .int xr), (2, .int xs), (3, .int xb), (4, .ref o0)] := hl
  have hP : va_P E.1 vwCl ((dC E ad S zs rn dy bn cn tn) ++ [(oL E o0 f0)]) H := by rw [hH]; exact hP
  refine lv_aload hx hb dL_danger_0 (lv_at hl 4 rfl) ?_
  refine lv_iconst (v := 0) hx hb dL_danger_2 (by decide) ?_
  refine lv_aload_n hx hb dL_danger_3 rfl (lv_at hl 0 rfl) ?_
  refine lv_iload_n hx hb dL_danger_4 rfl (lv_at hl 1 rfl) ?_
  refine lv_iload_n hx hb dL_danger_5 rfl (lv_at hl 2 rfl) ?_
  refine lv_iload_n hx hb dL_danger_6 rfl (lv_at hl 3 rfl) ?_
  refine vx_calli (vx_runV (As := [.int xr, .int xs, .int xb]) (rest := [.int 0, .ref o0]) ⟨hx, hb, hml, hown, hts⟩ (kX4_danger l hlt E ad S zs rn dy bn cn tn xr xs xb (by first | omega | assumption | (intro k h; have := hz k h; omega)) (by first | omega | assumption | (intro k h; have := hz k h; omega))) (cwV 3 hts gL_danger_X4_danger rfl rfl rfl (by decide +kernel) ⟨Nat.le_of_ble_eq_true rfl, Nat.le_of_ble_eq_true rfl⟩) ⟨fb_X, va_recv hE.1 hP (ci := 4) (q0 := 0) rfl rfl, fun U hU hW => ⟨rfl, (by rw [hU]; exact fr_l hP), hE.warm hW, hU9.to hS (fun _ h => h.elim) hU hW⟩⟩ rfl rfl hl.1 rfl (lv_room (Nat.le_of_ble_eq_true rfl)) dL_danger_7 ⟨by first | exact Nat.le_of_ble_eq_true rfl | (show _ ≤ 2; omega), by first | exact Nat.le_of_ble_eq_true rfl | (show _ ≤ 12; omega)⟩) hS (fun q _ h => h.elim) (fun q h => h.elim) (fun q _ h => h.elim)
    (fun Ex ce q9 u9 t H1 locs ht hvm hw hB hz1 hk1 hS hce hcv hcl => ?_) (fun r7_0 u t H1 locs ht hvm hw hB hz1 hk1 hS => ?_)
  · have hP := hP.ro hk1
    have hX := hB
    generalize H1 = H at hP hS hce ⊢
    obtain ⟨hk9, hk0⟩ := hw
    have hle := tDan_le xr xs rn
    rcases (show u9 = 1 from by omega) with rfl
    · have hX : Ex = "java/lang/IndexOutOfBoundsException" := hX
      subst hX
      refine vx_catch (E := "java/lang/IndexOutOfBoundsException") (name := "java/lang/IndexOutOfBoundsException") hown [] (⟨0, 12, 15, 19⟩ : ExceptionTableEntry) [] (by rw [htab]; rfl) (fun z hz => nomatch hz) (by decide) (by decide) cl_19 (ev_cast hE (by decide +kernel)) hce hcv hcl ?_
      refine lv_astore (lv' := [(5, .ref q9), (0, .ref (ad 0)), (1, .int xr), (2, .int xs), (3, .int xb), (4, .ref o0)]) hx hb dL_danger_15 hl (by decide) rfl (fun ls hl => ?_)
      refine lv_iconst (v := 1) hx hb dL_danger_17 (by decide) ?_
      have hB9 : va_P E.1 vwCl (mo 1 ((dC E ad S zs rn dy bn cn tn) ++ [(oL E o0 (vp_updL f0 0 (Int32.toInt64 (if xb = 0 then dngA (rw5 (S (3 + 2 * (Int32.toNatClampNeg xr))) (Int32.toNatClampNeg xs)) else lvD (dngA (rw5 (S (3 + 2 * (Int32.toNatClampNeg xr))) (Int32.toNatClampNeg xs)))))))]) (fun _ => ((dC E ad S zs rn dy bn cn tn) ++ [(oL E o0 f0)]))) H := hP
      exact W.iret (v := 1) hx hb hr (fun t ht hW => ⟨⟨_, 1, rfl, ⟨rfl, hk9⟩, by subst ht; exact hB9⟩, hS.F ht⟩) hS.2.2 dL_danger_18
  · skip
    have hP := hP.ro hk1
    generalize H1 = H at hP hS ⊢
    obtain ⟨h_tc, hw⟩ := hw
    subst hw
    refine lv_i2l hx hb dL_danger_10 rfl ?_
    refine va_last (i := 0) hx hb hE.1 hP hD hS 27 3 rfl rfl (by unfold vp_in; decide) dL_danger_11 (fun H locs hP hD hS => ?_)
    rw [show Int32.toNatClampNeg (0 : Int32) = 0 from by decide] at hP hD
    have hP : va_P E.1 vwCl ((dC E ad S zs rn dy bn cn tn) ++ [(oL E o0 (vp_updL f0 0 (Int32.toInt64 (if xb = 0 then dngA (rw5 (S (3 + 2 * (Int32.toNatClampNeg xr))) (Int32.toNatClampNeg xs)) else lvD (dngA (rw5 (S (3 + 2 * (Int32.toNatClampNeg xr))) (Int32.toNatClampNeg xs)))))))]) H := hP
    have hD : va_D _ ((dC E ad S zs rn dy bn cn tn) ++ [(oL E o0 (vp_updL f0 0 (Int32.toInt64 (if xb = 0 then dngA (rw5 (S (3 + 2 * (Int32.toNatClampNeg xr))) (Int32.toNatClampNeg xs)) else lvD (dngA (rw5 (S (3 + 2 * (Int32.toNatClampNeg xr))) (Int32.toNatClampNeg xs)))))))]) := hD
    refine lv_goto (tgt := 19) hx hb dL_danger_12 (by decide) ?_
    refine lv_iconst (v := 0) hx hb dL_danger_19 (by decide) ?_
    have hB9 : va_P E.1 vwCl (mo 0 ((dC E ad S zs rn dy bn cn tn) ++ [(oL E o0 (vp_updL f0 0 (Int32.toInt64 (if xb = 0 then dngA (rw5 (S (3 + 2 * (Int32.toNatClampNeg xr))) (Int32.toNatClampNeg xs)) else lvD (dngA (rw5 (S (3 + 2 * (Int32.toNatClampNeg xr))) (Int32.toNatClampNeg xs)))))))]) (fun _ => ((dC E ad S zs rn dy bn cn tn) ++ [(oL E o0 f0)]))) H := hP
    exact W.iret (v := 0) hx hb hr (fun t ht hW => ⟨⟨_, 0, rfl, ⟨rfl, h_tc⟩, by subst ht; exact hB9⟩, hS.F ht⟩) hS.2.2 dL_danger_20
set_option maxHeartbeats 4000000 in
set_option maxRecDepth 100000 in
theorem kL_level (l : Launch) (hlt : l.stackTraces = false) (E : ev_T) (ad : Nat → Nat) (S : Nat → Nat → Int32) (zs : Nat → Nat) (rn : Nat) (dy : Nat) (bn : Nat) (cn : Nat) (tn : Nat) (xr : Int32) (o0 : Nat) (f0 : Nat → Int64) (sz : Nat) (hrn : rn ≤ 6) (hdy : dy ≤ 60) : Met l yL_level wsL_level ({ frames := 8, cells := 1, slots := 6, locals := 124 } : Room) (va_Pc [.ref (ad 0), .int xr, .ref o0] (pr_Y E ((dC E ad S zs rn dy bn cn tn) ++ [(oL E o0 f0)]) sz)) (va_Qi (fun (r : Int32) (k : Nat) => r = nI k ∧ k = tReg xr rn) (fun k t => va_P E.1 vwCl (mo k ((dC E ad S zs rn dy bn cn tn) ++ [(oL E o0 (vp_updL f0 0 (Int32.toInt64 (levA (S (3 + 2 * (Int32.toNatClampNeg xr)))))))]) (fun _ => ((dC E ad S zs rn dy bn cn tn) ++ [(oL E o0 f0)]))) t.heap) (va_A ((dC E ad S zs rn dy bn cn tn) ++ [(oL E o0 f0)]) sz)) 1 6 (va_A ((dC E ad S zs rn dy bn cn tn) ++ [(oL E o0 f0)]) sz) := by
  refine mz_ofWH (cc := cL_level) (maxL := 4) (ret := (some .int)) (by decide +kernel) rfl ?_
  intro p e s m args below meth c s₁ B hml hv htab
  obtain ⟨rfl, hsz, hP, hD0, hE, hU9⟩ := hv
  have hx := B.exec
  have hb := B.bytes
  have hr := B.returns
  have hts := atoms_spec (ws := wsL_level) B.pre
  have hown : s.vm.findClass RL = some m.cls := findClass_of_methodNamed B.named
  have hlocks := B.notSynchronized
  subst hsz
  have hD : va_D (va_A ((dC E ad S zs rn dy bn cn tn) ++ [(oL E o0 f0)]) s.heap.size) ((dC E ad S zs rn dy bn cn tn) ++ [(oL E o0 f0)]) := hD0.self
  have hA : ∀ q : Nat, s.heap.size ≤ q → (va_A ((dC E ad S zs rn dy bn cn tn) ++ [(oL E o0 f0)]) s.heap.size) q := fun q h => Or.inr h
  refine mz_start (fun H locs hH hL => ?_)
  have hS : va_S (va_A ((dC E ad S zs rn dy bn cn tn) ++ [(oL E o0 f0)]) s.heap.size) s.heap H locs := by rw [hH, hL]; exact va_S.rf
  have cl_19 := hts (.classLink RL 19 "java/lang/IndexOutOfBoundsException") (by decide +kernel)
  have hl := lv_entry ([.ref (ad 0), .int xr, .ref o0]) (n := 4) (Nat.le_of_ble_eq_true rfl)
  rw [lg_entry_eq]
  generalize (lg_sl ([.ref (ad 0), .int xr, .ref o0]) ++ List.replicate (4 - (lg_sl ([.ref (ad 0), .int xr, .ref o0])).length) Slot.unset).toArray = ls at hl ⊢
  have hl : lv_has ls 4 [(0, .ref (ad 0)), (1, .int xr), (2, .ref o0)] := hl
  have hP : va_P E.1 vwCl ((dC E ad S zs rn dy bn cn tn) ++ [(oL E o0 f0)]) H := by rw [hH]; exact hP
  refine lv_aload_n hx hb dL_level_0 rfl (lv_at hl 2 rfl) ?_
  refine lv_iconst (v := 0) hx hb dL_level_1 (by decide) ?_
  refine lv_aload_n hx hb dL_level_2 rfl (lv_at hl 0 rfl) ?_
  refine lv_iload_n hx hb dL_level_3 rfl (lv_at hl 1 rfl) ?_
  refine vx_calli (vx_runV (As := [.int xr]) (rest := [.int 0, .ref o0]) ⟨hx, hb, hml, hown, hts⟩ (kX4_level l hlt E ad S zs rn dy bn cn tn xr (by first | omega | assumption | (intro k h; have := hz k h; omega)) (by first | omega | assumption | (intro k h; have := hz k h; omega))) (cwV 1 hts gL_level_X4_level rfl rfl rfl (by decide +kernel) ⟨Nat.le_of_ble_eq_true rfl, Nat.le_of_ble_eq_true rfl⟩) ⟨fb_X, va_recv hE.1 hP (ci := 4) (q0 := 0) rfl rfl, fun U hU hW => ⟨rfl, (by rw [hU]; exact fr_l hP), hE.warm hW, hU9.to hS (fun _ h => h.elim) hU hW⟩⟩ rfl rfl hl.1 rfl (lv_room (Nat.le_of_ble_eq_true rfl)) dL_level_4 ⟨by first | exact Nat.le_of_ble_eq_true rfl | (show _ ≤ 1; omega), by first | exact Nat.le_of_ble_eq_true rfl | (show _ ≤ 6; omega)⟩) hS (fun q _ h => h.elim) (fun q h => h.elim) (fun q _ h => h.elim)
    (fun Ex ce q9 u9 t H1 locs ht hvm hw hB hz1 hk1 hS hce hcv hcl => ?_) (fun r4_0 u t H1 locs ht hvm hw hB hz1 hk1 hS => ?_)
  · have hP := hP.ro hk1
    have hX := hB
    generalize H1 = H at hP hS hce ⊢
    obtain ⟨hk9, hk0⟩ := hw
    have hle := tReg_le xr rn
    rcases (show u9 = 1 from by omega) with rfl
    · have hX : Ex = "java/lang/IndexOutOfBoundsException" := hX
      subst hX
      refine vx_catch (E := "java/lang/IndexOutOfBoundsException") (name := "java/lang/IndexOutOfBoundsException") hown [] (⟨0, 9, 12, 19⟩ : ExceptionTableEntry) [] (by rw [htab]; rfl) (fun z hz => nomatch hz) (by decide) (by decide) cl_19 (ev_cast hE (by decide +kernel)) hce hcv hcl ?_
      refine lv_astore_n (lv' := [(3, .ref q9), (0, .ref (ad 0)), (1, .int xr), (2, .ref o0)]) hx hb dL_level_12 rfl hl (by decide) rfl (fun ls hl => ?_)
      refine lv_iconst (v := 1) hx hb dL_level_13 (by decide) ?_
      have hB9 : va_P E.1 vwCl (mo 1 ((dC E ad S zs rn dy bn cn tn) ++ [(oL E o0 (vp_updL f0 0 (Int32.toInt64 (levA (S (3 + 2 * (Int32.toNatClampNeg xr)))))))]) (fun _ => ((dC E ad S zs rn dy bn cn tn) ++ [(oL E o0 f0)]))) H := hP
      exact W.iret (v := 1) hx hb hr (fun t ht hW => ⟨⟨_, 1, rfl, ⟨rfl, hk9⟩, by subst ht; exact hB9⟩, hS.F ht⟩) hS.2.2 dL_level_14
  · skip
    have hP := hP.ro hk1
    generalize H1 = H at hP hS ⊢
    obtain ⟨h_tc, hw⟩ := hw
    subst hw
    refine lv_i2l hx hb dL_level_7 rfl ?_
    refine va_last (i := 0) hx hb hE.1 hP hD hS 27 3 rfl rfl (by unfold vp_in; decide) dL_level_8 (fun H locs hP hD hS => ?_)
    rw [show Int32.toNatClampNeg (0 : Int32) = 0 from by decide] at hP hD
    have hP : va_P E.1 vwCl ((dC E ad S zs rn dy bn cn tn) ++ [(oL E o0 (vp_updL f0 0 (Int32.toInt64 (levA (S (3 + 2 * (Int32.toNatClampNeg xr)))))))]) H := hP
    have hD : va_D _ ((dC E ad S zs rn dy bn cn tn) ++ [(oL E o0 (vp_updL f0 0 (Int32.toInt64 (levA (S (3 + 2 * (Int32.toNatClampNeg xr)))))))]) := hD
    refine lv_goto (tgt := 15) hx hb dL_level_9 (by decide) ?_
    refine lv_iconst (v := 0) hx hb dL_level_15 (by decide) ?_
    have hB9 : va_P E.1 vwCl (mo 0 ((dC E ad S zs rn dy bn cn tn) ++ [(oL E o0 (vp_updL f0 0 (Int32.toInt64 (levA (S (3 + 2 * (Int32.toNatClampNeg xr)))))))]) (fun _ => ((dC E ad S zs rn dy bn cn tn) ++ [(oL E o0 f0)]))) H := hP
    exact W.iret (v := 0) hx hb hr (fun t ht hW => ⟨⟨_, 0, rfl, ⟨rfl, h_tc⟩, by subst ht; exact hB9⟩, hS.F ht⟩) hS.2.2 dL_level_16
set_option maxHeartbeats 4000000 in
set_option maxRecDepth 100000 in
theorem kL_core (l : Launch) (hlt : l.stackTraces = false) (E : ev_T) (ad : Nat → Nat) (S : Nat → Nat → Int32) (zs : Nat → Nat) (rn : Nat) (dy : Nat) (bn : Nat) (cn : Nat) (tn : Nat) (xr : Int32) (o0 : Nat) (f0 : Nat → Int64) (sz : Nat) (hrn : rn ≤ 6) (hdy : dy ≤ 60) : Met l yL_core wsL_core ({ frames := 8, cells := 1, slots := 6, locals := 124 } : Room) (va_Pc [.ref (ad 0), .int xr, .ref o0] (pr_Y E ((dC E ad S zs rn dy bn cn tn) ++ [(oL E o0 f0)]) sz)) (va_Qi (fun (r : Int32) (k : Nat) => r = nI k ∧ k = tReg xr rn) (fun k t => va_P E.1 vwCl (mo k ((dC E ad S zs rn dy bn cn tn) ++ [(oL E o0 (vp_updL f0 0 (Int32.toInt64 (crA (S (3 + 2 * (Int32.toNatClampNeg xr))) (levA (S (3 + 2 * (Int32.toNatClampNeg xr)))) 12))))]) (fun _ => ((dC E ad S zs rn dy bn cn tn) ++ [(oL E o0 f0)]))) t.heap) (va_A ((dC E ad S zs rn dy bn cn tn) ++ [(oL E o0 f0)]) sz)) 1 6 (va_A ((dC E ad S zs rn dy bn cn tn) ++ [(oL E o0 f0)]) sz) := by
  refine mz_ofWH (cc := cL_core) (maxL := 4) (ret := (some .int)) (by decide +kernel) rfl ?_
  intro p e s m args below meth c s₁ B hml hv htab
  obtain ⟨rfl, hsz, hP, hD0, hE, hU9⟩ := hv
  have hx := B.exec
  have hb := B.bytes
  have hr := B.returns
  have hts := atoms_spec (ws := wsL_core) B.pre
  have hown : s.vm.findClass RL = some m.cls := findClass_of_methodNamed B.named
  have hlocks := B.notSynchronized
  subst hsz
  have hD : va_D (va_A ((dC E ad S zs rn dy bn cn tn) ++ [(oL E o0 f0)]) s.heap.size) ((dC E ad S zs rn dy bn cn tn) ++ [(oL E o0 f0)]) := hD0.self
  have hA : ∀ q : Nat, s.heap.size ≤ q → (va_A ((dC E ad S zs rn dy bn cn tn) ++ [(oL E o0 f0)]) s.heap.size) q := fun q h => Or.inr h
  refine mz_start (fun H locs hH hL => ?_)
  have hS : va_S (va_A ((dC E ad S zs rn dy bn cn tn) ++ [(oL E o0 f0)]) s.heap.size) s.heap H locs := by rw [hH, hL]; exact va_S.rf
  have cl_19 := hts (.classLink RL 19 "java/lang/IndexOutOfBoundsException") (by decide +kernel)
  have hl := lv_entry ([.ref (ad 0), .int xr, .ref o0]) (n := 4) (Nat.le_of_ble_eq_true rfl)
  rw [lg_entry_eq]
  generalize (lg_sl ([.ref (ad 0), .int xr, .ref o0]) ++ List.replicate (4 - (lg_sl ([.ref (ad 0), .int xr, .ref o0])).length) Slot.unset).toArray = ls at hl ⊢
  have hl : lv_has ls 4 [(0, .ref (ad 0)), (1, .int xr), (2, .ref o0)] := hl
  have hP : va_P E.1 vwCl ((dC E ad S zs rn dy bn cn tn) ++ [(oL E o0 f0)]) H := by rw [hH]; exact hP
  refine lv_aload_n hx hb dL_core_0 rfl (lv_at hl 2 rfl) ?_
  refine lv_iconst (v := 0) hx hb dL_core_1 (by decide) ?_
  refine lv_aload_n hx hb dL_core_2 rfl (lv_at hl 0 rfl) ?_
  refine lv_iload_n hx hb dL_core_3 rfl (lv_at hl 1 rfl) ?_
  refine vx_calli (vx_runV (As := [.int xr]) (rest := [.int 0, .ref o0]) ⟨hx, hb, hml, hown, hts⟩ (kX4_core l hlt E ad S zs rn dy bn cn tn xr (by first | omega | assumption | (intro k h; have := hz k h; omega)) (by first | omega | assumption | (intro k h; have := hz k h; omega))) (cwV 1 hts gL_core_X4_core rfl rfl rfl (by decide +kernel) ⟨Nat.le_of_ble_eq_true rfl, Nat.le_of_ble_eq_true rfl⟩) ⟨fb_X, va_recv hE.1 hP (ci := 4) (q0 := 0) rfl rfl, fun U hU hW => ⟨rfl, (by rw [hU]; exact fr_l hP), hE.warm hW, hU9.to hS (fun _ h => h.elim) hU hW⟩⟩ rfl rfl hl.1 rfl (lv_room (Nat.le_of_ble_eq_true rfl)) dL_core_4 ⟨by first | exact Nat.le_of_ble_eq_true rfl | (show _ ≤ 1; omega), by first | exact Nat.le_of_ble_eq_true rfl | (show _ ≤ 6; omega)⟩) hS (fun q _ h => h.elim) (fun q h => h.elim) (fun q _ h => h.elim)
    (fun Ex ce q9 u9 t H1 locs ht hvm hw hB hz1 hk1 hS hce hcv hcl => ?_) (fun r4_0 u t H1 locs ht hvm hw hB hz1 hk1 hS => ?_)
  · have hP := hP.ro hk1
    have hX := hB
    generalize H1 = H at hP hS hce ⊢
    obtain ⟨hk9, hk0⟩ := hw
    have hle := tReg_le xr rn
    rcases (show u9 = 1 from by omega) with rfl
    · have hX : Ex = "java/lang/IndexOutOfBoundsException" := hX
      subst hX
      refine vx_catch (E := "java/lang/IndexOutOfBoundsException") (name := "java/lang/IndexOutOfBoundsException") hown [] (⟨0, 9, 12, 19⟩ : ExceptionTableEntry) [] (by rw [htab]; rfl) (fun z hz => nomatch hz) (by decide) (by decide) cl_19 (ev_cast hE (by decide +kernel)) hce hcv hcl ?_
      refine lv_astore_n (lv' := [(3, .ref q9), (0, .ref (ad 0)), (1, .int xr), (2, .ref o0)]) hx hb dL_core_12 rfl hl (by decide) rfl (fun ls hl => ?_)
      refine lv_iconst (v := 1) hx hb dL_core_13 (by decide) ?_
      have hB9 : va_P E.1 vwCl (mo 1 ((dC E ad S zs rn dy bn cn tn) ++ [(oL E o0 (vp_updL f0 0 (Int32.toInt64 (crA (S (3 + 2 * (Int32.toNatClampNeg xr))) (levA (S (3 + 2 * (Int32.toNatClampNeg xr)))) 12))))]) (fun _ => ((dC E ad S zs rn dy bn cn tn) ++ [(oL E o0 f0)]))) H := hP
      exact W.iret (v := 1) hx hb hr (fun t ht hW => ⟨⟨_, 1, rfl, ⟨rfl, hk9⟩, by subst ht; exact hB9⟩, hS.F ht⟩) hS.2.2 dL_core_14
  · skip
    have hP := hP.ro hk1
    generalize H1 = H at hP hS ⊢
    obtain ⟨h_tc, hw⟩ := hw
    subst hw
    refine lv_i2l hx hb dL_core_7 rfl ?_
    refine va_last (i := 0) hx hb hE.1 hP hD hS 27 3 rfl rfl (by unfold vp_in; decide) dL_core_8 (fun H locs hP hD hS => ?_)
    rw [show Int32.toNatClampNeg (0 : Int32) = 0 from by decide] at hP hD
    have hP : va_P E.1 vwCl ((dC E ad S zs rn dy bn cn tn) ++ [(oL E o0 (vp_updL f0 0 (Int32.toInt64 (crA (S (3 + 2 * (Int32.toNatClampNeg xr))) (levA (S (3 + 2 * (Int32.toNatClampNeg xr)))) 12))))]) H := hP
    have hD : va_D _ ((dC E ad S zs rn dy bn cn tn) ++ [(oL E o0 (vp_updL f0 0 (Int32.toInt64 (crA (S (3 + 2 * (Int32.toNatClampNeg xr))) (levA (S (3 + 2 * (Int32.toNatClampNeg xr)))) 12))))]) := hD
    refine lv_goto (tgt := 15) hx hb dL_core_9 (by decide) ?_
    refine lv_iconst (v := 0) hx hb dL_core_15 (by decide) ?_
    have hB9 : va_P E.1 vwCl (mo 0 ((dC E ad S zs rn dy bn cn tn) ++ [(oL E o0 (vp_updL f0 0 (Int32.toInt64 (crA (S (3 + 2 * (Int32.toNatClampNeg xr))) (levA (S (3 + 2 * (Int32.toNatClampNeg xr)))) 12))))]) (fun _ => ((dC E ad S zs rn dy bn cn tn) ++ [(oL E o0 f0)]))) H := hP
    exact W.iret (v := 0) hx hb hr (fun t ht hW => ⟨⟨_, 0, rfl, ⟨rfl, h_tc⟩, by subst ht; exact hB9⟩, hS.F ht⟩) hS.2.2 dL_core_16
set_option maxHeartbeats 4000000 in
set_option maxRecDepth 100000 in
theorem kL_mainProblem (l : Launch) (hlt : l.stackTraces = false) (E : ev_T) (ad : Nat → Nat) (S : Nat → Nat → Int32) (zs : Nat → Nat) (rn : Nat) (dy : Nat) (bn : Nat) (cn : Nat) (tn : Nat) (xr : Int32) (o0 : Nat) (f0 : Nat → Int64) (sz : Nat) (hrn : rn ≤ 6) (hdy : dy ≤ 60) : Met l yL_mainProblem wsL_mainProblem ({ frames := 8, cells := 1, slots := 6, locals := 125 } : Room) (va_Pc [.ref (ad 0), .int xr, .ref o0] (pr_Y E ((dC E ad S zs rn dy bn cn tn) ++ [(oL E o0 f0)]) sz)) (va_Qi (fun (r : Int32) (k : Nat) => r = nI k ∧ k = tReg xr rn) (fun k t => va_P E.1 vwCl (mo k ((dC E ad S zs rn dy bn cn tn) ++ [(oL E o0 (vp_updL f0 0 (Int32.toInt64 ((fpA (S (3 + 2 * (Int32.toNatClampNeg xr))) (crA (S (3 + 2 * (Int32.toNatClampNeg xr))) (levA (S (3 + 2 * (Int32.toNatClampNeg xr)))) 12) 4).1))))]) (fun _ => ((dC E ad S zs rn dy bn cn tn) ++ [(oL E o0 f0)]))) t.heap) (va_A ((dC E ad S zs rn dy bn cn tn) ++ [(oL E o0 f0)]) sz)) 1 6 (va_A ((dC E ad S zs rn dy bn cn tn) ++ [(oL E o0 f0)]) sz) := by
  refine mz_ofWH (cc := cL_mainProblem) (maxL := 4) (ret := (some .int)) (by decide +kernel) rfl ?_
  intro p e s m args below meth c s₁ B hml hv htab
  obtain ⟨rfl, hsz, hP, hD0, hE, hU9⟩ := hv
  have hx := B.exec
  have hb := B.bytes
  have hr := B.returns
  have hts := atoms_spec (ws := wsL_mainProblem) B.pre
  have hown : s.vm.findClass RL = some m.cls := findClass_of_methodNamed B.named
  have hlocks := B.notSynchronized
  subst hsz
  have hD : va_D (va_A ((dC E ad S zs rn dy bn cn tn) ++ [(oL E o0 f0)]) s.heap.size) ((dC E ad S zs rn dy bn cn tn) ++ [(oL E o0 f0)]) := hD0.self
  have hA : ∀ q : Nat, s.heap.size ≤ q → (va_A ((dC E ad S zs rn dy bn cn tn) ++ [(oL E o0 f0)]) s.heap.size) q := fun q h => Or.inr h
  refine mz_start (fun H locs hH hL => ?_)
  have hS : va_S (va_A ((dC E ad S zs rn dy bn cn tn) ++ [(oL E o0 f0)]) s.heap.size) s.heap H locs := by rw [hH, hL]; exact va_S.rf
  have cl_19 := hts (.classLink RL 19 "java/lang/IndexOutOfBoundsException") (by decide +kernel)
  have hl := lv_entry ([.ref (ad 0), .int xr, .ref o0]) (n := 4) (Nat.le_of_ble_eq_true rfl)
  rw [lg_entry_eq]
  generalize (lg_sl ([.ref (ad 0), .int xr, .ref o0]) ++ List.replicate (4 - (lg_sl ([.ref (ad 0), .int xr, .ref o0])).length) Slot.unset).toArray = ls at hl ⊢
  have hl : lv_has ls 4 [(0, .ref (ad 0)), (1, .int xr), (2, .ref o0)] := hl
  have hP : va_P E.1 vwCl ((dC E ad S zs rn dy bn cn tn) ++ [(oL E o0 f0)]) H := by rw [hH]; exact hP
  refine lv_aload_n hx hb dL_mainProblem_0 rfl (lv_at hl 2 rfl) ?_
  refine lv_iconst (v := 0) hx hb dL_mainProblem_1 (by decide) ?_
  refine lv_aload_n hx hb dL_mainProblem_2 rfl (lv_at hl 0 rfl) ?_
  refine lv_iload_n hx hb dL_mainProblem_3 rfl (lv_at hl 1 rfl) ?_
  refine vx_calli (vx_runV (As := [.int xr]) (rest := [.int 0, .ref o0]) ⟨hx, hb, hml, hown, hts⟩ (kX4_mainProblem l hlt E ad S zs rn dy bn cn tn xr (by first | omega | assumption | (intro k h; have := hz k h; omega)) (by first | omega | assumption | (intro k h; have := hz k h; omega))) (cwV 1 hts gL_mainProblem_X4_mainProblem rfl rfl rfl (by decide +kernel) ⟨Nat.le_of_ble_eq_true rfl, Nat.le_of_ble_eq_true rfl⟩) ⟨fb_X, va_recv hE.1 hP (ci := 4) (q0 := 0) rfl rfl, fun U hU hW => ⟨rfl, (by rw [hU]; exact fr_l hP), hE.warm hW, hU9.to hS (fun _ h => h.elim) hU hW⟩⟩ rfl rfl hl.1 rfl (lv_room (Nat.le_of_ble_eq_true rfl)) dL_mainProblem_4 ⟨by first | exact Nat.le_of_ble_eq_true rfl | (show _ ≤ 1; omega), by first | exact Nat.le_of_ble_eq_true rfl | (show _ ≤ 6; omega)⟩) hS (fun q _ h => h.elim) (fun q h => h.elim) (fun q _ h => h.elim)
    (fun Ex ce q9 u9 t H1 locs ht hvm hw hB hz1 hk1 hS hce hcv hcl => ?_) (fun r4_0 u t H1 locs ht hvm hw hB hz1 hk1 hS => ?_)
  · have hP := hP.ro hk1
    have hX := hB
    generalize H1 = H at hP hS hce ⊢
    obtain ⟨hk9, hk0⟩ := hw
    have hle := tReg_le xr rn
    rcases (show u9 = 1 from by omega) with rfl
    · have hX : Ex = "java/lang/IndexOutOfBoundsException" := hX
      subst hX
      refine vx_catch (E := "java/lang/IndexOutOfBoundsException") (name := "java/lang/IndexOutOfBoundsException") hown [] (⟨0, 9, 12, 19⟩ : ExceptionTableEntry) [] (by rw [htab]; rfl) (fun z hz => nomatch hz) (by decide) (by decide) cl_19 (ev_cast hE (by decide +kernel)) hce hcv hcl ?_
      refine lv_astore_n (lv' := [(3, .ref q9), (0, .ref (ad 0)), (1, .int xr), (2, .ref o0)]) hx hb dL_mainProblem_12 rfl hl (by decide) rfl (fun ls hl => ?_)
      refine lv_iconst (v := 1) hx hb dL_mainProblem_13 (by decide) ?_
      have hB9 : va_P E.1 vwCl (mo 1 ((dC E ad S zs rn dy bn cn tn) ++ [(oL E o0 (vp_updL f0 0 (Int32.toInt64 ((fpA (S (3 + 2 * (Int32.toNatClampNeg xr))) (crA (S (3 + 2 * (Int32.toNatClampNeg xr))) (levA (S (3 + 2 * (Int32.toNatClampNeg xr)))) 12) 4).1))))]) (fun _ => ((dC E ad S zs rn dy bn cn tn) ++ [(oL E o0 f0)]))) H := hP
      exact W.iret (v := 1) hx hb hr (fun t ht hW => ⟨⟨_, 1, rfl, ⟨rfl, hk9⟩, by subst ht; exact hB9⟩, hS.F ht⟩) hS.2.2 dL_mainProblem_14
  · skip
    have hP := hP.ro hk1
    generalize H1 = H at hP hS ⊢
    obtain ⟨h_tc, hw⟩ := hw
    subst hw
    refine lv_i2l hx hb dL_mainProblem_7 rfl ?_
    refine va_last (i := 0) hx hb hE.1 hP hD hS 27 3 rfl rfl (by unfold vp_in; decide) dL_mainProblem_8 (fun H locs hP hD hS => ?_)
    rw [show Int32.toNatClampNeg (0 : Int32) = 0 from by decide] at hP hD
    have hP : va_P E.1 vwCl ((dC E ad S zs rn dy bn cn tn) ++ [(oL E o0 (vp_updL f0 0 (Int32.toInt64 ((fpA (S (3 + 2 * (Int32.toNatClampNeg xr))) (crA (S (3 + 2 * (Int32.toNatClampNeg xr))) (levA (S (3 + 2 * (Int32.toNatClampNeg xr)))) 12) 4).1))))]) H := hP
    have hD : va_D _ ((dC E ad S zs rn dy bn cn tn) ++ [(oL E o0 (vp_updL f0 0 (Int32.toInt64 ((fpA (S (3 + 2 * (Int32.toNatClampNeg xr))) (crA (S (3 + 2 * (Int32.toNatClampNeg xr))) (levA (S (3 + 2 * (Int32.toNatClampNeg xr)))) 12) 4).1))))]) := hD
    refine lv_goto (tgt := 15) hx hb dL_mainProblem_9 (by decide) ?_
    refine lv_iconst (v := 0) hx hb dL_mainProblem_15 (by decide) ?_
    have hB9 : va_P E.1 vwCl (mo 0 ((dC E ad S zs rn dy bn cn tn) ++ [(oL E o0 (vp_updL f0 0 (Int32.toInt64 ((fpA (S (3 + 2 * (Int32.toNatClampNeg xr))) (crA (S (3 + 2 * (Int32.toNatClampNeg xr))) (levA (S (3 + 2 * (Int32.toNatClampNeg xr)))) 12) 4).1))))]) (fun _ => ((dC E ad S zs rn dy bn cn tn) ++ [(oL E o0 f0)]))) H := hP
    exact W.iret (v := 0) hx hb hr (fun t ht hW => ⟨⟨_, 0, rfl, ⟨rfl, h_tc⟩, by subst ht; exact hB9⟩, hS.F ht⟩) hS.2.2 dL_mainProblem_16
set_option maxHeartbeats 4000000 in
set_option maxRecDepth 100000 in
theorem kL_outlook (l : Launch) (hlt : l.stackTraces = false) (E : ev_T) (ad : Nat → Nat) (S : Nat → Nat → Int32) (zs : Nat → Nat) (rn : Nat) (dy : Nat) (bn : Nat) (cn : Nat) (tn : Nat) (xr : Int32) (xn : Int32) (xw : Int32) (xf : Int32) (xt : Int32) (o0 : Nat) (f0 : Nat → Int64) (sz : Nat) (hrn : rn ≤ 6) (hdy : dy ≤ 60) : Met l yL_outlook wsL_outlook ({ frames := 8, cells := 2, slots := 12, locals := 137 } : Room) (va_Pc [.ref (ad 0), .int xr, .int xn, .int xw, .int xf, .int xt, .ref o0] (pr_Y E ((dC E ad S zs rn dy bn cn tn) ++ [(oL E o0 f0)]) sz)) (va_Qi (fun (r : Int32) (k : Nat) => r = nI k ∧ k = tWea xr xn xw xf xt rn) (fun k t => va_P E.1 vwCl (mo k ((dC E ad (va_up (va_up (va_up S 15 (va_cpy (S (3 + 2 * (Int32.toNatClampNeg xr))) (S 15) 0 0 60)) 14 (fF 1 xn xw xf xt)) 15 (PO (va_cpy (S (3 + 2 * (Int32.toNatClampNeg xr))) (S 15) 0 0 60) ((fF 1 xn xw xf xt) 2) ((fF 1 xn xw xf xt) 3) ((fF 1 xn xw xf xt) 4) ((fF 1 xn xw xf xt) 5))) zs rn dy bn cn tn) ++ [(oL E o0 (vp_updL f0 0 (Int32.toInt64 (levA (PO (va_cpy (S (3 + 2 * (Int32.toNatClampNeg xr))) (S 15) 0 0 60) ((fF 1 xn xw xf xt) 2) ((fF 1 xn xw xf xt) 3) ((fF 1 xn xw xf xt) 4) ((fF 1 xn xw xf xt) 5))))))]) (fun _ => ((dC E ad S zs rn dy bn cn tn) ++ [(oL E o0 f0)]))) t.heap) (va_A ((dC E ad S zs rn dy bn cn tn) ++ [(oL E o0 f0)]) sz)) 2 12 (va_A ((dC E ad S zs rn dy bn cn tn) ++ [(oL E o0 f0)]) sz) := by
  refine mz_ofWH (cc := cL_outlook) (maxL := 8) (ret := (some .int)) (by decide +kernel) rfl ?_
  intro p e s m args below meth c s₁ B hml hv htab
  obtain ⟨rfl, hsz, hP, hD0, hE, hU9⟩ := hv
  have hx := B.exec
  have hb := B.bytes
  have hr := B.returns
  have hts := atoms_spec (ws := wsL_outlook) B.pre
  have hown : s.vm.findClass RL = some m.cls := findClass_of_methodNamed B.named
  have hlocks := B.notSynchronized
  subst hsz
  have hD : va_D (va_A ((dC E ad S zs rn dy bn cn tn) ++ [(oL E o0 f0)]) s.heap.size) ((dC E ad S zs rn dy bn cn tn) ++ [(oL E o0 f0)]) := hD0.self
  have hA : ∀ q : Nat, s.heap.size ≤ q → (va_A ((dC E ad S zs rn dy bn cn tn) ++ [(oL E o0 f0)]) s.heap.size) q := fun q h => Or.inr h
  refine mz_start (fun H locs hH hL => ?_)
  have hS : va_S (va_A ((dC E ad S zs rn dy bn cn tn) ++ [(oL E o0 f0)]) s.heap.size) s.heap H locs := by rw [hH, hL]; exact va_S.rf
  have cl_19 := hts (.classLink RL 19 "java/lang/IndexOutOfBoundsException") (by decide +kernel)
  have cl_21 := hts (.classLink RL 21 "java/lang/IllegalArgumentException") (by decide +kernel)
  have hl := lv_entry ([.ref (ad 0), .int xr, .int xn, .int xw, .int xf, .int xt, .ref o0]) (n := 8) (Nat.le_of_ble_eq_true rfl)
  rw [lg_entry_eq]
  generalize (lg_sl ([.ref (ad 0), .int xr, .int xn, .int xw, .int xf, .int xt, .ref o0]) ++ List.replicate (8 - (lg_sl ([.ref (ad 0), .int xr, .int xn, .int xw, .int xf, .int xt, .ref o0])).length) Slot.unset).toArray = ls at hl ⊢
  have hl : lv_has ls 8 [(0, .ref (ad 0)), (1, .int xr), (2, .int xn), (3, .int xw), (4, .int xf), (5, .int xt), (6, .ref o0)] := hl
  have hP : va_P E.1 vwCl ((dC E ad S zs rn dy bn cn tn) ++ [(oL E o0 f0)]) H := by rw [hH]; exact hP
  refine lv_aload hx hb dL_outlook_0 (lv_at hl 6 rfl) ?_
  refine lv_iconst (v := 0) hx hb dL_outlook_2 (by decide) ?_
  refine lv_aload_n hx hb dL_outlook_3 rfl (lv_at hl 0 rfl) ?_
  refine lv_iload_n hx hb dL_outlook_4 rfl (lv_at hl 1 rfl) ?_
  refine lv_iload_n hx hb dL_outlook_5 rfl (lv_at hl 2 rfl) ?_
  refine lv_iload_n hx hb dL_outlook_6 rfl (lv_at hl 3 rfl) ?_
  refine lv_iload hx hb dL_outlook_7 (lv_at hl 4 rfl) ?_
  refine lv_iload hx hb dL_outlook_9 (lv_at hl 5 rfl) ?_
  have hFc := fr_free (w := (dC E ad S zs rn dy bn cn tn)) (fr_Dl hD) hS hA
  refine vx_calli (vx_runV (As := [.int xr, .int xn, .int xw, .int xf, .int xt]) (rest := [.int 0, .ref o0]) ⟨hx, hb, hml, hown, hts⟩ (kX4_outlook l hlt E ad S zs rn dy bn cn tn xr xn xw xf xt H.size (by first | omega | assumption | (intro k h; have := hz k h; omega)) (by first | omega | assumption | (intro k h; have := hz k h; omega))) (cwV 5 hts gL_outlook_X4_outlook rfl rfl rfl (by decide +kernel) ⟨Nat.le_of_ble_eq_true rfl, Nat.le_of_ble_eq_true rfl⟩) ⟨fb_Y, va_recv hE.1 hP (ci := 4) (q0 := 0) rfl rfl, fun U hU hW => ⟨rfl, by rw [hU], (by rw [hU]; exact fr_l hP), (fr_Dl hD).weaken (fun _ _ _ _ => trivial), hE.warm hW, hU9.to hS hFc hU hW⟩⟩ rfl rfl hl.1 rfl (lv_room (Nat.le_of_ble_eq_true rfl)) dL_outlook_11 ⟨by first | exact Nat.le_of_ble_eq_true rfl | (show _ ≤ 2; omega), by first | exact Nat.le_of_ble_eq_true rfl | (show _ ≤ 12; omega)⟩) hS (fun q _ h => hFc q h) hFc (fun q _ h => hFc q h)
    (fun Ex ce q9 u9 t H1 locs ht hvm hw hB hz1 hk1 hS hce hcv hcl => ?_) (fun r11_0 u t H1 locs ht hvm hw hB hz1 hk1 hS => ?_)
  · obtain ⟨hX, hB⟩ := hB
    rw [ht] at hB
    obtain ⟨hP, hD⟩ := fr_call hD hP hB rfl hk1
    generalize H1 = H at hP hS hce ⊢
    obtain ⟨hk9, hk0⟩ := hw
    have hle := tWea_le xr xn xw xf xt rn
    rcases (show u9 = 1 ∨ u9 = 2 from by omega) with rfl | rfl
    · have hX : Ex = "java/lang/IndexOutOfBoundsException" := hX
      subst hX
      refine vx_catch (E := "java/lang/IndexOutOfBoundsException") (name := "java/lang/IndexOutOfBoundsException") hown [] (⟨0, 16, 19, 19⟩ : ExceptionTableEntry) [(⟨0, 16, 23, 21⟩ : ExceptionTableEntry)] (by rw [htab]; rfl) (fun z hz => nomatch hz) (by decide) (by decide) cl_19 (ev_cast hE (by decide +kernel)) hce hcv hcl ?_
      refine lv_astore (lv' := [(7, .ref q9), (0, .ref (ad 0)), (1, .int xr), (2, .int xn), (3, .int xw), (4, .int xf), (5, .int xt), (6, .ref o0)]) hx hb dL_outlook_19 hl (by decide) rfl (fun ls hl => ?_)
      refine lv_iconst (v := 1) hx hb dL_outlook_21 (by decide) ?_
      have hB9 : va_P E.1 vwCl (mo 1 ((dC E ad (va_up (va_up (va_up S 15 (va_cpy (S (3 + 2 * (Int32.toNatClampNeg xr))) (S 15) 0 0 60)) 14 (fF 1 xn xw xf xt)) 15 (PO (va_cpy (S (3 + 2 * (Int32.toNatClampNeg xr))) (S 15) 0 0 60) ((fF 1 xn xw xf xt) 2) ((fF 1 xn xw xf xt) 3) ((fF 1 xn xw xf xt) 4) ((fF 1 xn xw xf xt) 5))) zs rn dy bn cn tn) ++ [(oL E o0 (vp_updL f0 0 (Int32.toInt64 (levA (PO (va_cpy (S (3 + 2 * (Int32.toNatClampNeg xr))) (S 15) 0 0 60) ((fF 1 xn xw xf xt) 2) ((fF 1 xn xw xf xt) 3) ((fF 1 xn xw xf xt) 4) ((fF 1 xn xw xf xt) 5))))))]) (fun _ => ((dC E ad S zs rn dy bn cn tn) ++ [(oL E o0 f0)]))) H := hP
      exact W.iret (v := 1) hx hb hr (fun t ht hW => ⟨⟨_, 1, rfl, ⟨rfl, hk9⟩, by subst ht; exact hB9⟩, hS.F ht⟩) hS.2.2 dL_outlook_22
    · have hX : Ex = "java/lang/IllegalArgumentException" := hX
      subst hX
      refine vx_catch (E := "java/lang/IllegalArgumentException") (name := "java/lang/IllegalArgumentException") hown [(⟨0, 16, 19, 19⟩ : ExceptionTableEntry)] (⟨0, 16, 23, 21⟩ : ExceptionTableEntry) [] (by rw [htab]; rfl) (fun z hz => by rcases (show z = (⟨0, 16, 19, 19⟩ : ExceptionTableEntry) from by simpa using hz) with rfl <;> first | exact Or.inr ⟨by decide, _, cl_19, hE.2.2.2.2 ("java/lang/IllegalArgumentException", "java/lang/IndexOutOfBoundsException") (by decide +kernel)⟩) (by decide) (by decide) cl_21 (ev_cast hE (by decide +kernel)) hce hcv hcl ?_
      refine lv_astore (lv' := [(7, .ref q9), (0, .ref (ad 0)), (1, .int xr), (2, .int xn), (3, .int xw), (4, .int xf), (5, .int xt), (6, .ref o0)]) hx hb dL_outlook_23 hl (by decide) rfl (fun ls hl => ?_)
      refine lv_iconst (v := 2) hx hb dL_outlook_25 (by decide) ?_
      have hB9 : va_P E.1 vwCl (mo 2 ((dC E ad (va_up (va_up (va_up S 15 (va_cpy (S (3 + 2 * (Int32.toNatClampNeg xr))) (S 15) 0 0 60)) 14 (fF 1 xn xw xf xt)) 15 (PO (va_cpy (S (3 + 2 * (Int32.toNatClampNeg xr))) (S 15) 0 0 60) ((fF 1 xn xw xf xt) 2) ((fF 1 xn xw xf xt) 3) ((fF 1 xn xw xf xt) 4) ((fF 1 xn xw xf xt) 5))) zs rn dy bn cn tn) ++ [(oL E o0 (vp_updL f0 0 (Int32.toInt64 (levA (PO (va_cpy (S (3 + 2 * (Int32.toNatClampNeg xr))) (S 15) 0 0 60) ((fF 1 xn xw xf xt) 2) ((fF 1 xn xw xf xt) 3) ((fF 1 xn xw xf xt) 4) ((fF 1 xn xw xf xt) 5))))))]) (fun _ => ((dC E ad S zs rn dy bn cn tn) ++ [(oL E o0 f0)]))) H := hP
      exact W.iret (v := 2) hx hb hr (fun t ht hW => ⟨⟨_, 2, rfl, ⟨rfl, hk9⟩, by subst ht; exact hB9⟩, hS.F ht⟩) hS.2.2 dL_outlook_26
  · skip
    rw [ht] at hB
    generalize hS9 : (va_up (va_up (va_up S 15 (va_cpy (S (3 + 2 * (Int32.toNatClampNeg xr))) (S 15) 0 0 60)) 14 (fF 1 xn xw xf xt)) 15 (PO (va_cpy (S (3 + 2 * (Int32.toNatClampNeg xr))) (S 15) 0 0 60) ((fF 1 xn xw xf xt) 2) ((fF 1 xn xw xf xt) 3) ((fF 1 xn xw xf xt) 4) ((fF 1 xn xw xf xt) 5))) = S9 at hB
    obtain ⟨hP, hD⟩ := fr_call hD hP hB (dC_fst _ _ _ _ _ _ _ _ _ _ _ _ _ _ _ _) hk1
    generalize H1 = H at hP hS ⊢
    obtain ⟨h_tc, hw⟩ := hw
    subst hw
    refine lv_i2l hx hb dL_outlook_14 rfl ?_
    refine va_last (i := 0) hx hb hE.1 hP hD hS 27 3 rfl rfl (by unfold vp_in; decide) dL_outlook_15 (fun H locs hP hD hS => ?_)
    rw [show Int32.toNatClampNeg (0 : Int32) = 0 from by decide] at hP hD
    have hP : va_P E.1 vwCl ((dC E ad S9 zs rn dy bn cn tn) ++ [(oL E o0 (vp_updL f0 0 (Int32.toInt64 (levA (PO (va_cpy (S (3 + 2 * (Int32.toNatClampNeg xr))) (S 15) 0 0 60) ((fF 1 xn xw xf xt) 2) ((fF 1 xn xw xf xt) 3) ((fF 1 xn xw xf xt) 4) ((fF 1 xn xw xf xt) 5))))))]) H := hP
    have hD : va_D _ ((dC E ad S9 zs rn dy bn cn tn) ++ [(oL E o0 (vp_updL f0 0 (Int32.toInt64 (levA (PO (va_cpy (S (3 + 2 * (Int32.toNatClampNeg xr))) (S 15) 0 0 60) ((fF 1 xn xw xf xt) 2) ((fF 1 xn xw xf xt) 3) ((fF 1 xn xw xf xt) 4) ((fF 1 xn xw xf xt) 5))))))]) := hD
    refine lv_goto (tgt := 27) hx hb dL_outlook_16 (by decide) ?_
    refine lv_iconst (v := 0) hx hb dL_outlook_27 (by decide) ?_
    subst hS9
    have hB9 : va_P E.1 vwCl (mo 0 ((dC E ad (va_up (va_up (va_up S 15 (va_cpy (S (3 + 2 * (Int32.toNatClampNeg xr))) (S 15) 0 0 60)) 14 (fF 1 xn xw xf xt)) 15 (PO (va_cpy (S (3 + 2 * (Int32.toNatClampNeg xr))) (S 15) 0 0 60) ((fF 1 xn xw xf xt) 2) ((fF 1 xn xw xf xt) 3) ((fF 1 xn xw xf xt) 4) ((fF 1 xn xw xf xt) 5))) zs rn dy bn cn tn) ++ [(oL E o0 (vp_updL f0 0 (Int32.toInt64 (levA (PO (va_cpy (S (3 + 2 * (Int32.toNatClampNeg xr))) (S 15) 0 0 60) ((fF 1 xn xw xf xt) 2) ((fF 1 xn xw xf xt) 3) ((fF 1 xn xw xf xt) 4) ((fF 1 xn xw xf xt) 5))))))]) (fun _ => ((dC E ad S zs rn dy bn cn tn) ++ [(oL E o0 f0)]))) H := hP
    exact W.iret (v := 0) hx hb hr (fun t ht hW => ⟨⟨_, 0, rfl, ⟨rfl, h_tc⟩, by subst ht; exact hB9⟩, hS.F ht⟩) hS.2.2 dL_outlook_28
set_option maxHeartbeats 4000000 in
set_option maxRecDepth 100000 in
theorem kL_publish (l : Launch) (hlt : l.stackTraces = false) (E : ev_T) (ad : Nat → Nat) (S : Nat → Nat → Int32) (zs : Nat → Nat) (rn : Nat) (dy : Nat) (bn : Nat) (cn : Nat) (tn : Nat) (o0 : Nat) (f0 : Nat → Int64) (sz : Nat) (hrn : rn ≤ 6) (hdy : dy ≤ 60) (hz : ∀ k, k ≤ 60 → zs k ≤ 6) : Met l yL_publish wsL_publish ({ frames := 7, cells := 1, slots := 6, locals := 119 } : Room) (va_Pc [.ref (ad 0), .ref o0] (pr_Y E ((dC E ad S zs rn dy bn cn tn) ++ [(oL E o0 f0)]) sz)) (va_Qi (fun (r : Int32) (k : Nat) => r = nI k ∧ k = tPub zs dy rn) (fun k t => va_P E.1 vwCl (mo k ((dC E ad (va_up S 18 (pbD S dy rn)) (va_up zs dy rn) rn dy (bn + 1) cn tn) ++ [(oL E o0 (vp_updL f0 0 (Int32.toInt64 (pgD S rn))))]) (fun _ => ((dC E ad S zs rn dy bn cn tn) ++ [(oL E o0 f0)]))) t.heap) (va_A ((dC E ad S zs rn dy bn cn tn) ++ [(oL E o0 f0)]) sz)) 1 6 (va_A ((dC E ad S zs rn dy bn cn tn) ++ [(oL E o0 f0)]) sz) := by
  refine mz_ofWH (cc := cL_publish) (maxL := 3) (ret := (some .int)) (by decide +kernel) rfl ?_
  intro p e s m args below meth c s₁ B hml hv htab
  obtain ⟨rfl, hsz, hP, hD0, hE, hU9⟩ := hv
  have hx := B.exec
  have hb := B.bytes
  have hr := B.returns
  have hts := atoms_spec (ws := wsL_publish) B.pre
  have hown : s.vm.findClass RL = some m.cls := findClass_of_methodNamed B.named
  have hlocks := B.notSynchronized
  subst hsz
  have hD : va_D (va_A ((dC E ad S zs rn dy bn cn tn) ++ [(oL E o0 f0)]) s.heap.size) ((dC E ad S zs rn dy bn cn tn) ++ [(oL E o0 f0)]) := hD0.self
  have hA : ∀ q : Nat, s.heap.size ≤ q → (va_A ((dC E ad S zs rn dy bn cn tn) ++ [(oL E o0 f0)]) s.heap.size) q := fun q h => Or.inr h
  refine mz_start (fun H locs hH hL => ?_)
  have hS : va_S (va_A ((dC E ad S zs rn dy bn cn tn) ++ [(oL E o0 f0)]) s.heap.size) s.heap H locs := by rw [hH, hL]; exact va_S.rf
  have cl_13 := hts (.classLink RL 13 "java/lang/IllegalStateException") (by decide +kernel)
  have hl := lv_entry ([.ref (ad 0), .ref o0]) (n := 3) (Nat.le_of_ble_eq_true rfl)
  rw [lg_entry_eq]
  generalize (lg_sl ([.ref (ad 0), .ref o0]) ++ List.replicate (3 - (lg_sl ([.ref (ad 0), .ref o0])).length) Slot.unset).toArray = ls at hl ⊢
  have hl : lv_has ls 3 [(0, .ref (ad 0)), (1, .ref o0)] := hl
  have hP : va_P E.1 vwCl ((dC E ad S zs rn dy bn cn tn) ++ [(oL E o0 f0)]) H := by rw [hH]; exact hP
  refine lv_aload_n hx hb dL_publish_0 rfl (lv_at hl 1 rfl) ?_
  refine lv_iconst (v := 0) hx hb dL_publish_1 (by decide) ?_
  refine lv_aload_n hx hb dL_publish_2 rfl (lv_at hl 0 rfl) ?_
  have hFc := fr_free (w := (dC E ad S zs rn dy bn cn tn)) (fr_Dl hD) hS hA
  refine vx_calli (vx_runV (As := []) (rest := [.int 0, .ref o0]) ⟨hx, hb, hml, hown, hts⟩ (kX4_publish l hlt E ad S zs rn dy bn cn tn H.size (by first | omega | assumption | (intro k h; have := hz k h; omega)) (by first | omega | assumption | (intro k h; have := hz k h; omega)) (by first | omega | assumption | (intro k h; have := hz k h; omega))) (cwV 0 hts gL_publish_X4_publish rfl rfl rfl (by decide +kernel) ⟨Nat.le_of_ble_eq_true rfl, Nat.le_of_ble_eq_true rfl⟩) ⟨fb_Y, va_recv hE.1 hP (ci := 4) (q0 := 0) rfl rfl, fun U hU hW => ⟨rfl, by rw [hU], (by rw [hU]; exact fr_l hP), (fr_Dl hD).weaken (fun _ _ _ _ => trivial), hE.warm hW, hU9.to hS hFc hU hW⟩⟩ rfl rfl hl.1 rfl (lv_room (Nat.le_of_ble_eq_true rfl)) dL_publish_3 ⟨by first | exact Nat.le_of_ble_eq_true rfl | (show _ ≤ 1; omega), by first | exact Nat.le_of_ble_eq_true rfl | (show _ ≤ 6; omega)⟩) hS (fun q _ h => hFc q h) hFc (fun q _ h => hFc q h)
    (fun Ex ce q9 u9 t H1 locs ht hvm hw hB hz1 hk1 hS hce hcv hcl => ?_) (fun r3_0 u t H1 locs ht hvm hw hB hz1 hk1 hS => ?_)
  · obtain ⟨hX, hB⟩ := hB
    rw [ht] at hB
    obtain ⟨hP, hD⟩ := fr_call hD hP hB rfl hk1
    generalize H1 = H at hP hS hce ⊢
    obtain ⟨hk9, hk0⟩ := hw
    have hle := tPub_le zs dy rn
    rcases (show u9 = 1 from by omega) with rfl
    · have hX : Ex = "java/lang/IllegalStateException" := hX
      subst hX
      refine vx_catch (E := "java/lang/IllegalStateException") (name := "java/lang/IllegalStateException") hown [] (⟨0, 8, 11, 13⟩ : ExceptionTableEntry) [] (by rw [htab]; rfl) (fun z hz => nomatch hz) (by decide) (by decide) cl_13 (ev_cast hE (by decide +kernel)) hce hcv hcl ?_
      refine lv_astore_n (lv' := [(2, .ref q9), (0, .ref (ad 0)), (1, .ref o0)]) hx hb dL_publish_11 rfl hl (by decide) rfl (fun ls hl => ?_)
      refine lv_iconst (v := 1) hx hb dL_publish_12 (by decide) ?_
      have hB9 : va_P E.1 vwCl (mo 1 ((dC E ad (va_up S 18 (pbD S dy rn)) (va_up zs dy rn) rn dy (bn + 1) cn tn) ++ [(oL E o0 (vp_updL f0 0 (Int32.toInt64 (pgD S rn))))]) (fun _ => ((dC E ad S zs rn dy bn cn tn) ++ [(oL E o0 f0)]))) H := hP
      exact W.iret (v := 1) hx hb hr (fun t ht hW => ⟨⟨_, 1, rfl, ⟨rfl, hk9⟩, by subst ht; exact hB9⟩, hS.F ht⟩) hS.2.2 dL_publish_13
  · skip
    rw [ht] at hB
    generalize hS9 : (va_up S 18 (pbD S dy rn)) = S9 at hB
    obtain ⟨hP, hD⟩ := fr_call hD hP hB (dC_fst _ _ _ _ _ _ _ _ _ _ _ _ _ _ _ _) hk1
    generalize H1 = H at hP hS ⊢
    obtain ⟨h_tc, hw⟩ := hw
    subst hw
    refine lv_i2l hx hb dL_publish_6 rfl ?_
    refine va_last (i := 0) hx hb hE.1 hP hD hS 27 3 rfl rfl (by unfold vp_in; decide) dL_publish_7 (fun H locs hP hD hS => ?_)
    rw [show Int32.toNatClampNeg (0 : Int32) = 0 from by decide] at hP hD
    have hP : va_P E.1 vwCl ((dC E ad S9 (va_up zs dy rn) rn dy (bn + 1) cn tn) ++ [(oL E o0 (vp_updL f0 0 (Int32.toInt64 (pgD S rn))))]) H := hP
    have hD : va_D _ ((dC E ad S9 (va_up zs dy rn) rn dy (bn + 1) cn tn) ++ [(oL E o0 (vp_updL f0 0 (Int32.toInt64 (pgD S rn))))]) := hD
    refine lv_goto (tgt := 14) hx hb dL_publish_8 (by decide) ?_
    refine lv_iconst (v := 0) hx hb dL_publish_14 (by decide) ?_
    subst hS9
    have hB9 : va_P E.1 vwCl (mo 0 ((dC E ad (va_up S 18 (pbD S dy rn)) (va_up zs dy rn) rn dy (bn + 1) cn tn) ++ [(oL E o0 (vp_updL f0 0 (Int32.toInt64 (pgD S rn))))]) (fun _ => ((dC E ad S zs rn dy bn cn tn) ++ [(oL E o0 f0)]))) H := hP
    exact W.iret (v := 0) hx hb hr (fun t ht hW => ⟨⟨_, 0, rfl, ⟨rfl, h_tc⟩, by subst ht; exact hB9⟩, hS.F ht⟩) hS.2.2 dL_publish_15
set_option maxHeartbeats 4000000 in
set_option maxRecDepth 100000 in
theorem kL_bulletin (l : Launch) (hlt : l.stackTraces = false) (E : ev_T) (ad : Nat → Nat) (S : Nat → Nat → Int32) (zs : Nat → Nat) (rn : Nat) (dy : Nat) (bn : Nat) (cn : Nat) (tn : Nat) (xd : Int32) (xr : Int32) (xw : Int32) (o0 : Nat) (f0 : Nat → Int64) (sz : Nat) (hrn : rn ≤ 6) (hdy : dy ≤ 60) (hz : ∀ k, k ≤ 60 → zs k ≤ 6) : Met l yL_bulletin wsL_bulletin ({ frames := 7, cells := 1, slots := 6, locals := 105 } : Room) (va_Pc [.ref (ad 0), .int xd, .int xr, .int xw, .ref o0] (pr_Y E ((dC E ad S zs rn dy bn cn tn) ++ [(oL E o0 f0)]) sz)) (va_Qi (fun (r : Int32) (k : Nat) => r = nI k ∧ k = tBul zs xd xr xw) (fun k t => va_P E.1 vwCl (mo k ((dC E ad S zs rn dy bn cn tn) ++ [(oL E o0 (vp_updL f0 0 (Int32.toInt64 (S 18 (((Int32.toNatClampNeg xd) * 6 + (Int32.toNatClampNeg xr)) * 3 + (Int32.toNatClampNeg xw))))))]) (fun _ => ((dC E ad S zs rn dy bn cn tn) ++ [(oL E o0 f0)]))) t.heap) (va_A ((dC E ad S zs rn dy bn cn tn) ++ [(oL E o0 f0)]) sz)) 1 6 (va_A ((dC E ad S zs rn dy bn cn tn) ++ [(oL E o0 f0)]) sz) := by
  refine mz_ofWH (cc := cL_bulletin) (maxL := 6) (ret := (some .int)) (by decide +kernel) rfl ?_
  intro p e s m args below meth c s₁ B hml hv htab
  obtain ⟨rfl, hsz, hP, hD0, hE, hU9⟩ := hv
  have hx := B.exec
  have hb := B.bytes
  have hr := B.returns
  have hts := atoms_spec (ws := wsL_bulletin) B.pre
  have hown : s.vm.findClass RL = some m.cls := findClass_of_methodNamed B.named
  have hlocks := B.notSynchronized
  subst hsz
  have hD : va_D (va_A ((dC E ad S zs rn dy bn cn tn) ++ [(oL E o0 f0)]) s.heap.size) ((dC E ad S zs rn dy bn cn tn) ++ [(oL E o0 f0)]) := hD0.self
  have hA : ∀ q : Nat, s.heap.size ≤ q → (va_A ((dC E ad S zs rn dy bn cn tn) ++ [(oL E o0 f0)]) s.heap.size) q := fun q h => Or.inr h
  refine mz_start (fun H locs hH hL => ?_)
  have hS : va_S (va_A ((dC E ad S zs rn dy bn cn tn) ++ [(oL E o0 f0)]) s.heap.size) s.heap H locs := by rw [hH, hL]; exact va_S.rf
  have cl_19 := hts (.classLink RL 19 "java/lang/IndexOutOfBoundsException") (by decide +kernel)
  have hl := lv_entry ([.ref (ad 0), .int xd, .int xr, .int xw, .ref o0]) (n := 6) (Nat.le_of_ble_eq_true rfl)
  rw [lg_entry_eq]
  generalize (lg_sl ([.ref (ad 0), .int xd, .int xr, .int xw, .ref o0]) ++ List.replicate (6 - (lg_sl ([.ref (ad 0), .int xd, .int xr, .int xw, .ref o0])).length) Slot.unset).toArray = ls at hl ⊢
  have hl : lv_has ls 6 [(0, .ref (ad 0)), (1, .int xd), (2, .int xr), (3, .int xw), (4, .ref o0)] := hl
  have hP : va_P E.1 vwCl ((dC E ad S zs rn dy bn cn tn) ++ [(oL E o0 f0)]) H := by rw [hH]; exact hP
  refine lv_aload hx hb dL_bulletin_0 (lv_at hl 4 rfl) ?_
  refine lv_iconst (v := 0) hx hb dL_bulletin_2 (by decide) ?_
  refine lv_aload_n hx hb dL_bulletin_3 rfl (lv_at hl 0 rfl) ?_
  refine lv_iload_n hx hb dL_bulletin_4 rfl (lv_at hl 1 rfl) ?_
  refine lv_iload_n hx hb dL_bulletin_5 rfl (lv_at hl 2 rfl) ?_
  refine lv_iload_n hx hb dL_bulletin_6 rfl (lv_at hl 3 rfl) ?_
  refine vx_calli (vx_runV (As := [.int xd, .int xr, .int xw]) (rest := [.int 0, .ref o0]) ⟨hx, hb, hml, hown, hts⟩ (kX4_bulletin l hlt E ad S zs rn dy bn cn tn xd xr xw (by first | omega | assumption | (intro k h; have := hz k h; omega)) (by first | omega | assumption | (intro k h; have := hz k h; omega)) (by first | omega | assumption | (intro k h; have := hz k h; omega))) (cwV 3 hts gL_bulletin_X4_bulletin rfl rfl rfl (by decide +kernel) ⟨Nat.le_of_ble_eq_true rfl, Nat.le_of_ble_eq_true rfl⟩) ⟨fb_X, va_recv hE.1 hP (ci := 4) (q0 := 0) rfl rfl, fun U hU hW => ⟨rfl, (by rw [hU]; exact fr_l hP), hE.warm hW, hU9.to hS (fun _ h => h.elim) hU hW⟩⟩ rfl rfl hl.1 rfl (lv_room (Nat.le_of_ble_eq_true rfl)) dL_bulletin_7 ⟨by first | exact Nat.le_of_ble_eq_true rfl | (show _ ≤ 1; omega), by first | exact Nat.le_of_ble_eq_true rfl | (show _ ≤ 6; omega)⟩) hS (fun q _ h => h.elim) (fun q h => h.elim) (fun q _ h => h.elim)
    (fun Ex ce q9 u9 t H1 locs ht hvm hw hB hz1 hk1 hS hce hcv hcl => ?_) (fun r7_0 u t H1 locs ht hvm hw hB hz1 hk1 hS => ?_)
  · have hP := hP.ro hk1
    have hX := hB
    generalize H1 = H at hP hS hce ⊢
    obtain ⟨hk9, hk0⟩ := hw
    have hle := tBul_le zs xd xr xw
    rcases (show u9 = 1 from by omega) with rfl
    · have hX : Ex = "java/lang/IndexOutOfBoundsException" := hX
      subst hX
      refine vx_catch (E := "java/lang/IndexOutOfBoundsException") (name := "java/lang/IndexOutOfBoundsException") hown [] (⟨0, 12, 15, 19⟩ : ExceptionTableEntry) [] (by rw [htab]; rfl) (fun z hz => nomatch hz) (by decide) (by decide) cl_19 (ev_cast hE (by decide +kernel)) hce hcv hcl ?_
      refine lv_astore (lv' := [(5, .ref q9), (0, .ref (ad 0)), (1, .int xd), (2, .int xr), (3, .int xw), (4, .ref o0)]) hx hb dL_bulletin_15 hl (by decide) rfl (fun ls hl => ?_)
      refine lv_iconst (v := 1) hx hb dL_bulletin_17 (by decide) ?_
      have hB9 : va_P E.1 vwCl (mo 1 ((dC E ad S zs rn dy bn cn tn) ++ [(oL E o0 (vp_updL f0 0 (Int32.toInt64 (S 18 (((Int32.toNatClampNeg xd) * 6 + (Int32.toNatClampNeg xr)) * 3 + (Int32.toNatClampNeg xw))))))]) (fun _ => ((dC E ad S zs rn dy bn cn tn) ++ [(oL E o0 f0)]))) H := hP
      exact W.iret (v := 1) hx hb hr (fun t ht hW => ⟨⟨_, 1, rfl, ⟨rfl, hk9⟩, by subst ht; exact hB9⟩, hS.F ht⟩) hS.2.2 dL_bulletin_18
  · skip
    have hP := hP.ro hk1
    generalize H1 = H at hP hS ⊢
    obtain ⟨h_tc, hw⟩ := hw
    subst hw
    refine lv_i2l hx hb dL_bulletin_10 rfl ?_
    refine va_last (i := 0) hx hb hE.1 hP hD hS 27 3 rfl rfl (by unfold vp_in; decide) dL_bulletin_11 (fun H locs hP hD hS => ?_)
    rw [show Int32.toNatClampNeg (0 : Int32) = 0 from by decide] at hP hD
    have hP : va_P E.1 vwCl ((dC E ad S zs rn dy bn cn tn) ++ [(oL E o0 (vp_updL f0 0 (Int32.toInt64 (S 18 (((Int32.toNatClampNeg xd) * 6 + (Int32.toNatClampNeg xr)) * 3 + (Int32.toNatClampNeg xw))))))]) H := hP
    have hD : va_D _ ((dC E ad S zs rn dy bn cn tn) ++ [(oL E o0 (vp_updL f0 0 (Int32.toInt64 (S 18 (((Int32.toNatClampNeg xd) * 6 + (Int32.toNatClampNeg xr)) * 3 + (Int32.toNatClampNeg xw))))))]) := hD
    refine lv_goto (tgt := 19) hx hb dL_bulletin_12 (by decide) ?_
    refine lv_iconst (v := 0) hx hb dL_bulletin_19 (by decide) ?_
    have hB9 : va_P E.1 vwCl (mo 0 ((dC E ad S zs rn dy bn cn tn) ++ [(oL E o0 (vp_updL f0 0 (Int32.toInt64 (S 18 (((Int32.toNatClampNeg xd) * 6 + (Int32.toNatClampNeg xr)) * 3 + (Int32.toNatClampNeg xw))))))]) (fun _ => ((dC E ad S zs rn dy bn cn tn) ++ [(oL E o0 f0)]))) H := hP
    exact W.iret (v := 0) hx hb hr (fun t ht hW => ⟨⟨_, 0, rfl, ⟨rfl, h_tc⟩, by subst ht; exact hB9⟩, hS.F ht⟩) hS.2.2 dL_bulletin_20
set_option maxHeartbeats 4000000 in
set_option maxRecDepth 100000 in
theorem kL_see (l : Launch) (hlt : l.stackTraces = false) (E : ev_T) (ad : Nat → Nat) (S : Nat → Nat → Int32) (zs : Nat → Nat) (rn : Nat) (dy : Nat) (bn : Nat) (cn : Nat) (tn : Nat) (xr : Int32) (xs : Int32) (xz : Int32) (o0 : Nat) (f0 : Nat → Int64) (sz : Nat) (hrn : rn ≤ 6) (hdy : dy ≤ 60) (hcn : cn ≤ 200) : Met l yL_see wsL_see ({ frames := 8, cells := 4, slots := 24, locals := 126 } : Room) (va_Pc [.ref (ad 0), .int xr, .int xs, .int xz, .ref o0] (pr_Y E ((dC E ad S zs rn dy bn cn tn) ++ [(oL E o0 f0)]) sz)) (va_Qi (fun (r : Int32) (k : Nat) => r = nI k ∧ k = tSee xr xs xz rn cn) (fun k t => va_P E.1 vwCl (mo k ((dC E ad (va_up (va_up (va_up (va_up S 20 (upd (S 20) cn (nI dy))) 21 (upd (S 21) cn (nI (Int32.toNatClampNeg xr)))) 22 (upd (S 22) cn (nI (Int32.toNatClampNeg xs)))) 23 (upd (S 23) (dy * 6 + (Int32.toNatClampNeg xr)) (S 23 (dy * 6 + (Int32.toNatClampNeg xr)) + nI ((Int32.toNatClampNeg xz) * (Int32.toNatClampNeg xz))))) zs rn dy bn (cn + 1) tn) ++ [(oL E o0 (vp_updL f0 0 (Int32.toInt64 ((upd (S 23) (dy * 6 + (Int32.toNatClampNeg xr)) (S 23 (dy * 6 + (Int32.toNatClampNeg xr)) + nI ((Int32.toNatClampNeg xz) * (Int32.toNatClampNeg xz)))) (dy * 6 + (Int32.toNatClampNeg xr))))))]) (fun _ => ((dC E ad S zs rn dy bn cn tn) ++ [(oL E o0 f0)]))) t.heap) (va_A ((dC E ad S zs rn dy bn cn tn) ++ [(oL E o0 f0)]) sz)) 4 24 (va_A ((dC E ad S zs rn dy bn cn tn) ++ [(oL E o0 f0)]) sz) := by
  refine mz_ofWH (cc := cL_see) (maxL := 6) (ret := (some .int)) (by decide +kernel) rfl ?_
  intro p e s m args below meth c s₁ B hml hv htab
  obtain ⟨rfl, hsz, hP, hD0, hE, hU9⟩ := hv
  have hx := B.exec
  have hb := B.bytes
  have hr := B.returns
  have hts := atoms_spec (ws := wsL_see) B.pre
  have hown : s.vm.findClass RL = some m.cls := findClass_of_methodNamed B.named
  have hlocks := B.notSynchronized
  subst hsz
  have hD : va_D (va_A ((dC E ad S zs rn dy bn cn tn) ++ [(oL E o0 f0)]) s.heap.size) ((dC E ad S zs rn dy bn cn tn) ++ [(oL E o0 f0)]) := hD0.self
  have hA : ∀ q : Nat, s.heap.size ≤ q → (va_A ((dC E ad S zs rn dy bn cn tn) ++ [(oL E o0 f0)]) s.heap.size) q := fun q h => Or.inr h
  refine mz_start (fun H locs hH hL => ?_)
  have hS : va_S (va_A ((dC E ad S zs rn dy bn cn tn) ++ [(oL E o0 f0)]) s.heap.size) s.heap H locs := by rw [hH, hL]; exact va_S.rf
  have cl_19 := hts (.classLink RL 19 "java/lang/IndexOutOfBoundsException") (by decide +kernel)
  have cl_21 := hts (.classLink RL 21 "java/lang/IllegalArgumentException") (by decide +kernel)
  have cl_13 := hts (.classLink RL 13 "java/lang/IllegalStateException") (by decide +kernel)
  have hl := lv_entry ([.ref (ad 0), .int xr, .int xs, .int xz, .ref o0]) (n := 6) (Nat.le_of_ble_eq_true rfl)
  rw [lg_entry_eq]
  generalize (lg_sl ([.ref (ad 0), .int xr, .int xs, .int xz, .ref o0]) ++ List.replicate (6 - (lg_sl ([.ref (ad 0), .int xr, .int xs, .int xz, .ref o0])).length) Slot.unset).toArray = ls at hl ⊢
  have hl : lv_has ls 6 [(0, .ref (ad 0)), (1, .int xr), (2, .int xs), (3, .int xz), (4, .ref o0)] := hl
  have hP : va_P E.1 vwCl ((dC E ad S zs rn dy bn cn tn) ++ [(oL E o0 f0)]) H := by rw [hH]; exact hP
  refine lv_aload hx hb dL_see_0 (lv_at hl 4 rfl) ?_
  refine lv_iconst (v := 0) hx hb dL_see_2 (by decide) ?_
  refine lv_aload_n hx hb dL_see_3 rfl (lv_at hl 0 rfl) ?_
  refine lv_iload_n hx hb dL_see_4 rfl (lv_at hl 1 rfl) ?_
  refine lv_iload_n hx hb dL_see_5 rfl (lv_at hl 2 rfl) ?_
  refine lv_iload_n hx hb dL_see_6 rfl (lv_at hl 3 rfl) ?_
  have hFc := fr_free (w := (dC E ad S zs rn dy bn cn tn)) (fr_Dl hD) hS hA
  refine vx_calli (vx_runV (As := [.int xr, .int xs, .int xz]) (rest := [.int 0, .ref o0]) ⟨hx, hb, hml, hown, hts⟩ (kX4_see l hlt E ad S zs rn dy bn cn tn xr xs xz H.size (by first | omega | assumption | (intro k h; have := hz k h; omega)) (by first | omega | assumption | (intro k h; have := hz k h; omega)) (by first | omega | assumption | (intro k h; have := hz k h; omega))) (cwV 3 hts gL_see_X4_see rfl rfl rfl (by decide +kernel) ⟨Nat.le_of_ble_eq_true rfl, Nat.le_of_ble_eq_true rfl⟩) ⟨fb_Y, va_recv hE.1 hP (ci := 4) (q0 := 0) rfl rfl, fun U hU hW => ⟨rfl, by rw [hU], (by rw [hU]; exact fr_l hP), (fr_Dl hD).weaken (fun _ _ _ _ => trivial), hE.warm hW, hU9.to hS hFc hU hW⟩⟩ rfl rfl hl.1 rfl (lv_room (Nat.le_of_ble_eq_true rfl)) dL_see_7 ⟨by first | exact Nat.le_of_ble_eq_true rfl | (show _ ≤ 4; omega), by first | exact Nat.le_of_ble_eq_true rfl | (show _ ≤ 24; omega)⟩) hS (fun q _ h => hFc q h) hFc (fun q _ h => hFc q h)
    (fun Ex ce q9 u9 t H1 locs ht hvm hw hB hz1 hk1 hS hce hcv hcl => ?_) (fun r7_0 u t H1 locs ht hvm hw hB hz1 hk1 hS => ?_)
  · obtain ⟨hX, hB⟩ := hB
    rw [ht] at hB
    obtain ⟨hP, hD⟩ := fr_call hD hP hB rfl hk1
    generalize H1 = H at hP hS hce ⊢
    obtain ⟨hk9, hk0⟩ := hw
    have hle := tSee_le xr xs xz rn cn
    rcases (show u9 = 1 ∨ u9 = 2 ∨ u9 = 3 from by omega) with rfl | rfl | rfl
    · have hX : Ex = "java/lang/IndexOutOfBoundsException" := hX
      subst hX
      refine vx_catch (E := "java/lang/IndexOutOfBoundsException") (name := "java/lang/IndexOutOfBoundsException") hown [] (⟨0, 12, 15, 19⟩ : ExceptionTableEntry) [(⟨0, 12, 19, 21⟩ : ExceptionTableEntry), (⟨0, 12, 23, 13⟩ : ExceptionTableEntry)] (by rw [htab]; rfl) (fun z hz => nomatch hz) (by decide) (by decide) cl_19 (ev_cast hE (by decide +kernel)) hce hcv hcl ?_
      refine lv_astore (lv' := [(5, .ref q9), (0, .ref (ad 0)), (1, .int xr), (2, .int xs), (3, .int xz), (4, .ref o0)]) hx hb dL_see_15 hl (by decide) rfl (fun ls hl => ?_)
      refine lv_iconst (v := 1) hx hb dL_see_17 (by decide) ?_
      have hB9 : va_P E.1 vwCl (mo 1 ((dC E ad (va_up (va_up (va_up (va_up S 20 (upd (S 20) cn (nI dy))) 21 (upd (S 21) cn (nI (Int32.toNatClampNeg xr)))) 22 (upd (S 22) cn (nI (Int32.toNatClampNeg xs)))) 23 (upd (S 23) (dy * 6 + (Int32.toNatClampNeg xr)) (S 23 (dy * 6 + (Int32.toNatClampNeg xr)) + nI ((Int32.toNatClampNeg xz) * (Int32.toNatClampNeg xz))))) zs rn dy bn (cn + 1) tn) ++ [(oL E o0 (vp_updL f0 0 (Int32.toInt64 ((upd (S 23) (dy * 6 + (Int32.toNatClampNeg xr)) (S 23 (dy * 6 + (Int32.toNatClampNeg xr)) + nI ((Int32.toNatClampNeg xz) * (Int32.toNatClampNeg xz)))) (dy * 6 + (Int32.toNatClampNeg xr))))))]) (fun _ => ((dC E ad S zs rn dy bn cn tn) ++ [(oL E o0 f0)]))) H := hP
      exact W.iret (v := 1) hx hb hr (fun t ht hW => ⟨⟨_, 1, rfl, ⟨rfl, hk9⟩, by subst ht; exact hB9⟩, hS.F ht⟩) hS.2.2 dL_see_18
    · have hX : Ex = "java/lang/IllegalArgumentException" := hX
      subst hX
      refine vx_catch (E := "java/lang/IllegalArgumentException") (name := "java/lang/IllegalArgumentException") hown [(⟨0, 12, 15, 19⟩ : ExceptionTableEntry)] (⟨0, 12, 19, 21⟩ : ExceptionTableEntry) [(⟨0, 12, 23, 13⟩ : ExceptionTableEntry)] (by rw [htab]; rfl) (fun z hz => by rcases (show z = (⟨0, 12, 15, 19⟩ : ExceptionTableEntry) from by simpa using hz) with rfl <;> first | exact Or.inr ⟨by decide, _, cl_19, hE.2.2.2.2 ("java/lang/IllegalArgumentException", "java/lang/IndexOutOfBoundsException") (by decide +kernel)⟩) (by decide) (by decide) cl_21 (ev_cast hE (by decide +kernel)) hce hcv hcl ?_
      refine lv_astore (lv' := [(5, .ref q9), (0, .ref (ad 0)), (1, .int xr), (2, .int xs), (3, .int xz), (4, .ref o0)]) hx hb dL_see_19 hl (by decide) rfl (fun ls hl => ?_)
      refine lv_iconst (v := 2) hx hb dL_see_21 (by decide) ?_
      have hB9 : va_P E.1 vwCl (mo 2 ((dC E ad (va_up (va_up (va_up (va_up S 20 (upd (S 20) cn (nI dy))) 21 (upd (S 21) cn (nI (Int32.toNatClampNeg xr)))) 22 (upd (S 22) cn (nI (Int32.toNatClampNeg xs)))) 23 (upd (S 23) (dy * 6 + (Int32.toNatClampNeg xr)) (S 23 (dy * 6 + (Int32.toNatClampNeg xr)) + nI ((Int32.toNatClampNeg xz) * (Int32.toNatClampNeg xz))))) zs rn dy bn (cn + 1) tn) ++ [(oL E o0 (vp_updL f0 0 (Int32.toInt64 ((upd (S 23) (dy * 6 + (Int32.toNatClampNeg xr)) (S 23 (dy * 6 + (Int32.toNatClampNeg xr)) + nI ((Int32.toNatClampNeg xz) * (Int32.toNatClampNeg xz)))) (dy * 6 + (Int32.toNatClampNeg xr))))))]) (fun _ => ((dC E ad S zs rn dy bn cn tn) ++ [(oL E o0 f0)]))) H := hP
      exact W.iret (v := 2) hx hb hr (fun t ht hW => ⟨⟨_, 2, rfl, ⟨rfl, hk9⟩, by subst ht; exact hB9⟩, hS.F ht⟩) hS.2.2 dL_see_22
    · have hX : Ex = "java/lang/IllegalStateException" := hX
      subst hX
      refine vx_catch (E := "java/lang/IllegalStateException") (name := "java/lang/IllegalStateException") hown [(⟨0, 12, 15, 19⟩ : ExceptionTableEntry), (⟨0, 12, 19, 21⟩ : ExceptionTableEntry)] (⟨0, 12, 23, 13⟩ : ExceptionTableEntry) [] (by rw [htab]; rfl) (fun z hz => by rcases (show z = (⟨0, 12, 15, 19⟩ : ExceptionTableEntry) ∨ z = (⟨0, 12, 19, 21⟩ : ExceptionTableEntry) from by simpa using hz) with rfl | rfl <;> first | exact Or.inr ⟨by decide, _, cl_19, hE.2.2.2.2 ("java/lang/IllegalStateException", "java/lang/IndexOutOfBoundsException") (by decide +kernel)⟩ | exact Or.inr ⟨by decide, _, cl_21, hE.2.2.2.2 ("java/lang/IllegalStateException", "java/lang/IllegalArgumentException") (by decide +kernel)⟩) (by decide) (by decide) cl_13 (ev_cast hE (by decide +kernel)) hce hcv hcl ?_
      refine lv_astore (lv' := [(5, .ref q9), (0, .ref (ad 0)), (1, .int xr), (2, .int xs), (3, .int xz), (4, .ref o0)]) hx hb dL_see_23 hl (by decide) rfl (fun ls hl => ?_)
      refine lv_iconst (v := 3) hx hb dL_see_25 (by decide) ?_
      have hB9 : va_P E.1 vwCl (mo 3 ((dC E ad (va_up (va_up (va_up (va_up S 20 (upd (S 20) cn (nI dy))) 21 (upd (S 21) cn (nI (Int32.toNatClampNeg xr)))) 22 (upd (S 22) cn (nI (Int32.toNatClampNeg xs)))) 23 (upd (S 23) (dy * 6 + (Int32.toNatClampNeg xr)) (S 23 (dy * 6 + (Int32.toNatClampNeg xr)) + nI ((Int32.toNatClampNeg xz) * (Int32.toNatClampNeg xz))))) zs rn dy bn (cn + 1) tn) ++ [(oL E o0 (vp_updL f0 0 (Int32.toInt64 ((upd (S 23) (dy * 6 + (Int32.toNatClampNeg xr)) (S 23 (dy * 6 + (Int32.toNatClampNeg xr)) + nI ((Int32.toNatClampNeg xz) * (Int32.toNatClampNeg xz)))) (dy * 6 + (Int32.toNatClampNeg xr))))))]) (fun _ => ((dC E ad S zs rn dy bn cn tn) ++ [(oL E o0 f0)]))) H := hP
      exact W.iret (v := 3) hx hb hr (fun t ht hW => ⟨⟨_, 3, rfl, ⟨rfl, hk9⟩, by subst ht; exact hB9⟩, hS.F ht⟩) hS.2.2 dL_see_26
  · skip
    rw [ht] at hB
    generalize hS9 : (va_up (va_up (va_up (va_up S 20 (upd (S 20) cn (nI dy))) 21 (upd (S 21) cn (nI (Int32.toNatClampNeg xr)))) 22 (upd (S 22) cn (nI (Int32.toNatClampNeg xs)))) 23 (upd (S 23) (dy * 6 + (Int32.toNatClampNeg xr)) (S 23 (dy * 6 + (Int32.toNatClampNeg xr)) + nI ((Int32.toNatClampNeg xz) * (Int32.toNatClampNeg xz))))) = S9 at hB
    obtain ⟨hP, hD⟩ := fr_call hD hP hB (dC_fst _ _ _ _ _ _ _ _ _ _ _ _ _ _ _ _) hk1
    generalize H1 = H at hP hS ⊢
    obtain ⟨h_tc, hw⟩ := hw
    subst hw
    refine lv_i2l hx hb dL_see_10 rfl ?_
    refine va_last (i := 0) hx hb hE.1 hP hD hS 27 3 rfl rfl (by unfold vp_in; decide) dL_see_11 (fun H locs hP hD hS => ?_)
    rw [show Int32.toNatClampNeg (0 : Int32) = 0 from by decide] at hP hD
    have hP : va_P E.1 vwCl ((dC E ad S9 zs rn dy bn (cn + 1) tn) ++ [(oL E o0 (vp_updL f0 0 (Int32.toInt64 ((upd (S 23) (dy * 6 + (Int32.toNatClampNeg xr)) (S 23 (dy * 6 + (Int32.toNatClampNeg xr)) + nI ((Int32.toNatClampNeg xz) * (Int32.toNatClampNeg xz)))) (dy * 6 + (Int32.toNatClampNeg xr))))))]) H := hP
    have hD : va_D _ ((dC E ad S9 zs rn dy bn (cn + 1) tn) ++ [(oL E o0 (vp_updL f0 0 (Int32.toInt64 ((upd (S 23) (dy * 6 + (Int32.toNatClampNeg xr)) (S 23 (dy * 6 + (Int32.toNatClampNeg xr)) + nI ((Int32.toNatClampNeg xz) * (Int32.toNatClampNeg xz)))) (dy * 6 + (Int32.toNatClampNeg xr))))))]) := hD
    refine lv_goto (tgt := 27) hx hb dL_see_12 (by decide) ?_
    refine lv_iconst (v := 0) hx hb dL_see_27 (by decide) ?_
    subst hS9
    have hB9 : va_P E.1 vwCl (mo 0 ((dC E ad (va_up (va_up (va_up (va_up S 20 (upd (S 20) cn (nI dy))) 21 (upd (S 21) cn (nI (Int32.toNatClampNeg xr)))) 22 (upd (S 22) cn (nI (Int32.toNatClampNeg xs)))) 23 (upd (S 23) (dy * 6 + (Int32.toNatClampNeg xr)) (S 23 (dy * 6 + (Int32.toNatClampNeg xr)) + nI ((Int32.toNatClampNeg xz) * (Int32.toNatClampNeg xz))))) zs rn dy bn (cn + 1) tn) ++ [(oL E o0 (vp_updL f0 0 (Int32.toInt64 ((upd (S 23) (dy * 6 + (Int32.toNatClampNeg xr)) (S 23 (dy * 6 + (Int32.toNatClampNeg xr)) + nI ((Int32.toNatClampNeg xz) * (Int32.toNatClampNeg xz)))) (dy * 6 + (Int32.toNatClampNeg xr))))))]) (fun _ => ((dC E ad S zs rn dy bn cn tn) ++ [(oL E o0 f0)]))) H := hP
    exact W.iret (v := 0) hx hb hr (fun t ht hW => ⟨⟨_, 0, rfl, ⟨rfl, h_tc⟩, by subst ht; exact hB9⟩, hS.F ht⟩) hS.2.2 dL_see_28
set_option maxHeartbeats 4000000 in
set_option maxRecDepth 100000 in
theorem kL_activity (l : Launch) (hlt : l.stackTraces = false) (E : ev_T) (ad : Nat → Nat) (S : Nat → Nat → Int32) (zs : Nat → Nat) (rn : Nat) (dy : Nat) (bn : Nat) (cn : Nat) (tn : Nat) (xd : Int32) (xr : Int32) (o0 : Nat) (f0 : Nat → Int64) (sz : Nat) (hrn : rn ≤ 6) (hdy : dy ≤ 60) : Met l yL_activity wsL_activity ({ frames := 8, cells := 2, slots := 12, locals := 125 } : Room) (va_Pc [.ref (ad 0), .int xd, .int xr, .ref o0] (pr_Y E ((dC E ad S zs rn dy bn cn tn) ++ [(oL E o0 f0)]) sz)) (va_Qi (fun (r : Int32) (k : Nat) => r = nI k ∧ k = tAct xd xr dy rn) (fun k t => va_P E.1 vwCl (mo k ((dC E ad S zs rn dy bn cn tn) ++ [(oL E o0 (vp_updL f0 0 (Int32.toInt64 (S 23 ((Int32.toNatClampNeg xd) * 6 + (Int32.toNatClampNeg xr))))))]) (fun _ => ((dC E ad S zs rn dy bn cn tn) ++ [(oL E o0 f0)]))) t.heap) (va_A ((dC E ad S zs rn dy bn cn tn) ++ [(oL E o0 f0)]) sz)) 2 12 (va_A ((dC E ad S zs rn dy bn cn tn) ++ [(oL E o0 f0)]) sz) := by
  refine mz_ofWH (cc := cL_activity) (maxL := 5) (ret := (some .int)) (by decide +kernel) rfl ?_
  intro p e s m args below meth c s₁ B hml hv htab
  obtain ⟨rfl, hsz, hP, hD0, hE, hU9⟩ := hv
  have hx := B.exec
  have hb := B.bytes
  have hr := B.returns
  have hts := atoms_spec (ws := wsL_activity) B.pre
  have hown : s.vm.findClass RL = some m.cls := findClass_of_methodNamed B.named
  have hlocks := B.notSynchronized
  subst hsz
  have hD : va_D (va_A ((dC E ad S zs rn dy bn cn tn) ++ [(oL E o0 f0)]) s.heap.size) ((dC E ad S zs rn dy bn cn tn) ++ [(oL E o0 f0)]) := hD0.self
  have hA : ∀ q : Nat, s.heap.size ≤ q → (va_A ((dC E ad S zs rn dy bn cn tn) ++ [(oL E o0 f0)]) s.heap.size) q := fun q h => Or.inr h
  refine mz_start (fun H locs hH hL => ?_)
  have hS : va_S (va_A ((dC E ad S zs rn dy bn cn tn) ++ [(oL E o0 f0)]) s.heap.size) s.heap H locs := by rw [hH, hL]; exact va_S.rf
  have cl_19 := hts (.classLink RL 19 "java/lang/IndexOutOfBoundsException") (by decide +kernel)
  have hl := lv_entry ([.ref (ad 0), .int xd, .int xr, .ref o0]) (n := 5) (Nat.le_of_ble_eq_true rfl)
  rw [lg_entry_eq]
  generalize (lg_sl ([.ref (ad 0), .int xd, .int xr, .ref o0]) ++ List.replicate (5 - (lg_sl ([.ref (ad 0), .int xd, .int xr, .ref o0])).length) Slot.unset).toArray = ls at hl ⊢
  have hl : lv_has ls 5 [(0, .ref (ad 0)), (1, .int xd), (2, .int xr), (3, .ref o0)] := hl
  have hP : va_P E.1 vwCl ((dC E ad S zs rn dy bn cn tn) ++ [(oL E o0 f0)]) H := by rw [hH]; exact hP
  refine lv_aload_n hx hb dL_activity_0 rfl (lv_at hl 3 rfl) ?_
  refine lv_iconst (v := 0) hx hb dL_activity_1 (by decide) ?_
  refine lv_aload_n hx hb dL_activity_2 rfl (lv_at hl 0 rfl) ?_
  refine lv_iload_n hx hb dL_activity_3 rfl (lv_at hl 1 rfl) ?_
  refine lv_iload_n hx hb dL_activity_4 rfl (lv_at hl 2 rfl) ?_
  refine vx_calli (vx_runV (As := [.int xd, .int xr]) (rest := [.int 0, .ref o0]) ⟨hx, hb, hml, hown, hts⟩ (kX4_activity l hlt E ad S zs rn dy bn cn tn xd xr (by first | omega | assumption | (intro k h; have := hz k h; omega)) (by first | omega | assumption | (intro k h; have := hz k h; omega))) (cwV 2 hts gL_activity_X4_activity rfl rfl rfl (by decide +kernel) ⟨Nat.le_of_ble_eq_true rfl, Nat.le_of_ble_eq_true rfl⟩) ⟨fb_X, va_recv hE.1 hP (ci := 4) (q0 := 0) rfl rfl, fun U hU hW => ⟨rfl, (by rw [hU]; exact fr_l hP), hE.warm hW, hU9.to hS (fun _ h => h.elim) hU hW⟩⟩ rfl rfl hl.1 rfl (lv_room (Nat.le_of_ble_eq_true rfl)) dL_activity_5 ⟨by first | exact Nat.le_of_ble_eq_true rfl | (show _ ≤ 2; omega), by first | exact Nat.le_of_ble_eq_true rfl | (show _ ≤ 12; omega)⟩) hS (fun q _ h => h.elim) (fun q h => h.elim) (fun q _ h => h.elim)
    (fun Ex ce q9 u9 t H1 locs ht hvm hw hB hz1 hk1 hS hce hcv hcl => ?_) (fun r5_0 u t H1 locs ht hvm hw hB hz1 hk1 hS => ?_)
  · have hP := hP.ro hk1
    have hX := hB
    generalize H1 = H at hP hS hce ⊢
    obtain ⟨hk9, hk0⟩ := hw
    have hle := tAct_le xd xr dy rn
    rcases (show u9 = 1 from by omega) with rfl
    · have hX : Ex = "java/lang/IndexOutOfBoundsException" := hX
      subst hX
      refine vx_catch (E := "java/lang/IndexOutOfBoundsException") (name := "java/lang/IndexOutOfBoundsException") hown [] (⟨0, 10, 13, 19⟩ : ExceptionTableEntry) [] (by rw [htab]; rfl) (fun z hz => nomatch hz) (by decide) (by decide) cl_19 (ev_cast hE (by decide +kernel)) hce hcv hcl ?_
      refine lv_astore (lv' := [(4, .ref q9), (0, .ref (ad 0)), (1, .int xd), (2, .int xr), (3, .ref o0)]) hx hb dL_activity_13 hl (by decide) rfl (fun ls hl => ?_)
      refine lv_iconst (v := 1) hx hb dL_activity_15 (by decide) ?_
      have hB9 : va_P E.1 vwCl (mo 1 ((dC E ad S zs rn dy bn cn tn) ++ [(oL E o0 (vp_updL f0 0 (Int32.toInt64 (S 23 ((Int32.toNatClampNeg xd) * 6 + (Int32.toNatClampNeg xr))))))]) (fun _ => ((dC E ad S zs rn dy bn cn tn) ++ [(oL E o0 f0)]))) H := hP
      exact W.iret (v := 1) hx hb hr (fun t ht hW => ⟨⟨_, 1, rfl, ⟨rfl, hk9⟩, by subst ht; exact hB9⟩, hS.F ht⟩) hS.2.2 dL_activity_16
  · skip
    have hP := hP.ro hk1
    generalize H1 = H at hP hS ⊢
    obtain ⟨h_tc, hw⟩ := hw
    subst hw
    refine lv_i2l hx hb dL_activity_8 rfl ?_
    refine va_last (i := 0) hx hb hE.1 hP hD hS 27 3 rfl rfl (by unfold vp_in; decide) dL_activity_9 (fun H locs hP hD hS => ?_)
    rw [show Int32.toNatClampNeg (0 : Int32) = 0 from by decide] at hP hD
    have hP : va_P E.1 vwCl ((dC E ad S zs rn dy bn cn tn) ++ [(oL E o0 (vp_updL f0 0 (Int32.toInt64 (S 23 ((Int32.toNatClampNeg xd) * 6 + (Int32.toNatClampNeg xr))))))]) H := hP
    have hD : va_D _ ((dC E ad S zs rn dy bn cn tn) ++ [(oL E o0 (vp_updL f0 0 (Int32.toInt64 (S 23 ((Int32.toNatClampNeg xd) * 6 + (Int32.toNatClampNeg xr))))))]) := hD
    refine lv_goto (tgt := 17) hx hb dL_activity_10 (by decide) ?_
    refine lv_iconst (v := 0) hx hb dL_activity_17 (by decide) ?_
    have hB9 : va_P E.1 vwCl (mo 0 ((dC E ad S zs rn dy bn cn tn) ++ [(oL E o0 (vp_updL f0 0 (Int32.toInt64 (S 23 ((Int32.toNatClampNeg xd) * 6 + (Int32.toNatClampNeg xr))))))]) (fun _ => ((dC E ad S zs rn dy bn cn tn) ++ [(oL E o0 f0)]))) H := hP
    exact W.iret (v := 0) hx hb hr (fun t ht hW => ⟨⟨_, 0, rfl, ⟨rfl, h_tc⟩, by subst ht; exact hB9⟩, hS.F ht⟩) hS.2.2 dL_activity_18
set_option maxHeartbeats 4000000 in
set_option maxRecDepth 100000 in
theorem kL_borneOut (l : Launch) (hlt : l.stackTraces = false) (E : ev_T) (ad : Nat → Nat) (S : Nat → Nat → Int32) (zs : Nat → Nat) (rn : Nat) (dy : Nat) (bn : Nat) (cn : Nat) (tn : Nat) (xh : Int32) (o0 : Nat) (f0 : Nat → Int64) (sz : Nat) (hrn : rn ≤ 6) (hdy : dy ≤ 60) (hz : ∀ k, k ≤ 60 → zs k ≤ 6) (hlv : ∀ d r, d ≤ 60 → r < zs d → 1 ≤ lvS S d r ∧ lvS S d r ≤ 5 ∧ S 18 ((d * 6 + r) * 3 + 0) = nI (lvS S d r)) : Met l yL_borneOut wsL_borneOut ({ frames := 7, cells := 1, slots := 6, locals := 106 } : Room) (va_Pc [.ref (ad 0), .int xh, .ref o0] (pr_Y E ((dC E ad S zs rn dy bn cn tn) ++ [(oL E o0 f0)]) sz)) (va_Qi (fun (r : Int32) (k : Nat) => r = nI k ∧ k = tBor xh) (fun k t => va_P E.1 vwCl (mo k ((dC E ad S zs rn dy bn cn tn) ++ [(oL E o0 (vp_updL f0 0 (Int32.toInt64 (bcD S zs rn xh (dy + 1)))))]) (fun _ => ((dC E ad S zs rn dy bn cn tn) ++ [(oL E o0 f0)]))) t.heap) (va_A ((dC E ad S zs rn dy bn cn tn) ++ [(oL E o0 f0)]) sz)) 1 6 (va_A ((dC E ad S zs rn dy bn cn tn) ++ [(oL E o0 f0)]) sz) := by
  refine mz_ofWH (cc := cL_borneOut) (maxL := 4) (ret := (some .int)) (by decide +kernel) rfl ?_
  intro p e s m args below meth c s₁ B hml hv htab
  obtain ⟨rfl, hsz, hP, hD0, hE, hU9⟩ := hv
  have hx := B.exec
  have hb := B.bytes
  have hr := B.returns
  have hts := atoms_spec (ws := wsL_borneOut) B.pre
  have hown : s.vm.findClass RL = some m.cls := findClass_of_methodNamed B.named
  have hlocks := B.notSynchronized
  subst hsz
  have hD : va_D (va_A ((dC E ad S zs rn dy bn cn tn) ++ [(oL E o0 f0)]) s.heap.size) ((dC E ad S zs rn dy bn cn tn) ++ [(oL E o0 f0)]) := hD0.self
  have hA : ∀ q : Nat, s.heap.size ≤ q → (va_A ((dC E ad S zs rn dy bn cn tn) ++ [(oL E o0 f0)]) s.heap.size) q := fun q h => Or.inr h
  refine mz_start (fun H locs hH hL => ?_)
  have hS : va_S (va_A ((dC E ad S zs rn dy bn cn tn) ++ [(oL E o0 f0)]) s.heap.size) s.heap H locs := by rw [hH, hL]; exact va_S.rf
  have cl_21 := hts (.classLink RL 21 "java/lang/IllegalArgumentException") (by decide +kernel)
  have hl := lv_entry ([.ref (ad 0), .int xh, .ref o0]) (n := 4) (Nat.le_of_ble_eq_true rfl)
  rw [lg_entry_eq]
  generalize (lg_sl ([.ref (ad 0), .int xh, .ref o0]) ++ List.replicate (4 - (lg_sl ([.ref (ad 0), .int xh, .ref o0])).length) Slot.unset).toArray = ls at hl ⊢
  have hl : lv_has ls 4 [(0, .ref (ad 0)), (1, .int xh), (2, .ref o0)] := hl
  have hP : va_P E.1 vwCl ((dC E ad S zs rn dy bn cn tn) ++ [(oL E o0 f0)]) H := by rw [hH]; exact hP
  refine lv_aload_n hx hb dL_borneOut_0 rfl (lv_at hl 2 rfl) ?_
  refine lv_iconst (v := 0) hx hb dL_borneOut_1 (by decide) ?_
  refine lv_aload_n hx hb dL_borneOut_2 rfl (lv_at hl 0 rfl) ?_
  refine lv_iload_n hx hb dL_borneOut_3 rfl (lv_at hl 1 rfl) ?_
  refine vx_calli (vx_runV (As := [.int xh]) (rest := [.int 0, .ref o0]) ⟨hx, hb, hml, hown, hts⟩ (kX4_borneOut l hlt E ad S zs rn dy bn cn tn xh (by first | omega | assumption | (intro k h; have := hz k h; omega)) (by first | omega | assumption | (intro k h; have := hz k h; omega)) (by first | omega | assumption | (intro k h; have := hz k h; omega)) (by first | omega | assumption | (intro k h; have := hz k h; omega))) (cwV 1 hts gL_borneOut_X4_borneOut rfl rfl rfl (by decide +kernel) ⟨Nat.le_of_ble_eq_true rfl, Nat.le_of_ble_eq_true rfl⟩) ⟨fb_X, va_recv hE.1 hP (ci := 4) (q0 := 0) rfl rfl, fun U hU hW => ⟨rfl, (by rw [hU]; exact fr_l hP), hE.warm hW, hU9.to hS (fun _ h => h.elim) hU hW⟩⟩ rfl rfl hl.1 rfl (lv_room (Nat.le_of_ble_eq_true rfl)) dL_borneOut_4 ⟨by first | exact Nat.le_of_ble_eq_true rfl | (show _ ≤ 1; omega), by first | exact Nat.le_of_ble_eq_true rfl | (show _ ≤ 6; omega)⟩) hS (fun q _ h => h.elim) (fun q h => h.elim) (fun q _ h => h.elim)
    (fun Ex ce q9 u9 t H1 locs ht hvm hw hB hz1 hk1 hS hce hcv hcl => ?_) (fun r4_0 u t H1 locs ht hvm hw hB hz1 hk1 hS => ?_)
  · have hP := hP.ro hk1
    have hX := hB
    generalize H1 = H at hP hS hce ⊢
    obtain ⟨hk9, hk0⟩ := hw
    have hle := tBor_le xh
    rcases (show u9 = 1 from by omega) with rfl
    · have hX : Ex = "java/lang/IllegalArgumentException" := hX
      subst hX
      refine vx_catch (E := "java/lang/IllegalArgumentException") (name := "java/lang/IllegalArgumentException") hown [] (⟨0, 9, 12, 21⟩ : ExceptionTableEntry) [] (by rw [htab]; rfl) (fun z hz => nomatch hz) (by decide) (by decide) cl_21 (ev_cast hE (by decide +kernel)) hce hcv hcl ?_
      refine lv_astore_n (lv' := [(3, .ref q9), (0, .ref (ad 0)), (1, .int xh), (2, .ref o0)]) hx hb dL_borneOut_12 rfl hl (by decide) rfl (fun ls hl => ?_)
      refine lv_iconst (v := 1) hx hb dL_borneOut_13 (by decide) ?_
      have hB9 : va_P E.1 vwCl (mo 1 ((dC E ad S zs rn dy bn cn tn) ++ [(oL E o0 (vp_updL f0 0 (Int32.toInt64 (bcD S zs rn xh (dy + 1)))))]) (fun _ => ((dC E ad S zs rn dy bn cn tn) ++ [(oL E o0 f0)]))) H := hP
      exact W.iret (v := 1) hx hb hr (fun t ht hW => ⟨⟨_, 1, rfl, ⟨rfl, hk9⟩, by subst ht; exact hB9⟩, hS.F ht⟩) hS.2.2 dL_borneOut_14
  · skip
    have hP := hP.ro hk1
    generalize H1 = H at hP hS ⊢
    obtain ⟨h_tc, hw⟩ := hw
    subst hw
    refine lv_i2l hx hb dL_borneOut_7 rfl ?_
    refine va_last (i := 0) hx hb hE.1 hP hD hS 27 3 rfl rfl (by unfold vp_in; decide) dL_borneOut_8 (fun H locs hP hD hS => ?_)
    rw [show Int32.toNatClampNeg (0 : Int32) = 0 from by decide] at hP hD
    have hP : va_P E.1 vwCl ((dC E ad S zs rn dy bn cn tn) ++ [(oL E o0 (vp_updL f0 0 (Int32.toInt64 (bcD S zs rn xh (dy + 1)))))]) H := hP
    have hD : va_D _ ((dC E ad S zs rn dy bn cn tn) ++ [(oL E o0 (vp_updL f0 0 (Int32.toInt64 (bcD S zs rn xh (dy + 1)))))]) := hD
    refine lv_goto (tgt := 15) hx hb dL_borneOut_9 (by decide) ?_
    refine lv_iconst (v := 0) hx hb dL_borneOut_15 (by decide) ?_
    have hB9 : va_P E.1 vwCl (mo 0 ((dC E ad S zs rn dy bn cn tn) ++ [(oL E o0 (vp_updL f0 0 (Int32.toInt64 (bcD S zs rn xh (dy + 1)))))]) (fun _ => ((dC E ad S zs rn dy bn cn tn) ++ [(oL E o0 f0)]))) H := hP
    exact W.iret (v := 0) hx hb hr (fun t ht hW => ⟨⟨_, 0, rfl, ⟨rfl, h_tc⟩, by subst ht; exact hB9⟩, hS.F ht⟩) hS.2.2 dL_borneOut_16
set_option maxHeartbeats 4000000 in
set_option maxRecDepth 100000 in
theorem kL_inCore (l : Launch) (hlt : l.stackTraces = false) (E : ev_T) (ad : Nat → Nat) (S : Nat → Nat → Int32) (zs : Nat → Nat) (rn : Nat) (dy : Nat) (bn : Nat) (cn : Nat) (tn : Nat) (xr : Int32) (o0 : Nat) (f0 : Nat → UInt64) (sz : Nat) (hrn : rn ≤ 6) (hdy : dy ≤ 60) (hz : ∀ k, k ≤ 60 → zs k ≤ 6) (hcn : cn ≤ 200) : Met l yL_inCore wsL_inCore ({ frames := 8, cells := 1, slots := 6, locals := 128 } : Room) (va_Pc [.ref (ad 0), .int xr, .ref o0] (pr_Y E ((dC E ad S zs rn dy bn cn tn) ++ [(oD E o0 f0)]) sz)) (va_Qi (fun (r : Int32) (k : Nat) => r = nI k ∧ k = tReg xr rn) (fun k t => va_P E.1 vwCl (mo k ((dC E ad S zs rn dy bn cn tn) ++ [(oD E o0 (vf_upd f0 0 (icR S zs (Int32.toNatClampNeg xr) cn)))]) (fun _ => ((dC E ad S zs rn dy bn cn tn) ++ [(oD E o0 f0)]))) t.heap) (va_A ((dC E ad S zs rn dy bn cn tn) ++ [(oD E o0 f0)]) sz)) 1 6 (va_A ((dC E ad S zs rn dy bn cn tn) ++ [(oD E o0 f0)]) sz) := by
  refine mz_ofWH (cc := cL_inCore) (maxL := 4) (ret := (some .int)) (by decide +kernel) rfl ?_
  intro p e s m args below meth c s₁ B hml hv htab
  obtain ⟨rfl, hsz, hP, hD0, hE, hU9⟩ := hv
  have hx := B.exec
  have hb := B.bytes
  have hr := B.returns
  have hts := atoms_spec (ws := wsL_inCore) B.pre
  have hown : s.vm.findClass RL = some m.cls := findClass_of_methodNamed B.named
  have hlocks := B.notSynchronized
  subst hsz
  have hD : va_D (va_A ((dC E ad S zs rn dy bn cn tn) ++ [(oD E o0 f0)]) s.heap.size) ((dC E ad S zs rn dy bn cn tn) ++ [(oD E o0 f0)]) := hD0.self
  have hA : ∀ q : Nat, s.heap.size ≤ q → (va_A ((dC E ad S zs rn dy bn cn tn) ++ [(oD E o0 f0)]) s.heap.size) q := fun q h => Or.inr h
  refine mz_start (fun H locs hH hL => ?_)
  have hS : va_S (va_A ((dC E ad S zs rn dy bn cn tn) ++ [(oD E o0 f0)]) s.heap.size) s.heap H locs := by rw [hH, hL]; exact va_S.rf
  have cl_19 := hts (.classLink RL 19 "java/lang/IndexOutOfBoundsException") (by decide +kernel)
  have hl := lv_entry ([.ref (ad 0), .int xr, .ref o0]) (n := 4) (Nat.le_of_ble_eq_true rfl)
  rw [lg_entry_eq]
  generalize (lg_sl ([.ref (ad 0), .int xr, .ref o0]) ++ List.replicate (4 - (lg_sl ([.ref (ad 0), .int xr, .ref o0])).length) Slot.unset).toArray = ls at hl ⊢
  have hl : lv_has ls 4 [(0, .ref (ad 0)), (1, .int xr), (2, .ref o0)] := hl
  have hP : va_P E.1 vwCl ((dC E ad S zs rn dy bn cn tn) ++ [(oD E o0 f0)]) H := by rw [hH]; exact hP
  refine lv_aload_n hx hb dL_inCore_0 rfl (lv_at hl 2 rfl) ?_
  refine lv_iconst (v := 0) hx hb dL_inCore_1 (by decide) ?_
  refine lv_aload_n hx hb dL_inCore_2 rfl (lv_at hl 0 rfl) ?_
  refine lv_iload_n hx hb dL_inCore_3 rfl (lv_at hl 1 rfl) ?_
  refine vx_calld (vx_runV (As := [.int xr]) (rest := [.int 0, .ref o0]) ⟨hx, hb, hml, hown, hts⟩ (kX4_inCore l hlt E ad S zs rn dy bn cn tn xr (by first | omega | assumption | (intro k h; have := hz k h; omega)) (by first | omega | assumption | (intro k h; have := hz k h; omega)) (by first | omega | assumption | (intro k h; have := hz k h; omega)) (by first | omega | assumption | (intro k h; have := hz k h; omega))) (cwV 1 hts gL_inCore_X4_inCore rfl rfl rfl (by decide +kernel) ⟨Nat.le_of_ble_eq_true rfl, Nat.le_of_ble_eq_true rfl⟩) ⟨fb_X, va_recv hE.1 hP (ci := 4) (q0 := 0) rfl rfl, fun U hU hW => ⟨rfl, (by rw [hU]; exact fr_l hP), hE.warm hW, hU9.to hS (fun _ h => h.elim) hU hW⟩⟩ rfl rfl hl.1 rfl (lv_room (Nat.le_of_ble_eq_true rfl)) dL_inCore_4 ⟨by first | exact Nat.le_of_ble_eq_true rfl | (show _ ≤ 1; omega), by first | exact Nat.le_of_ble_eq_true rfl | (show _ ≤ 6; omega)⟩) hS (fun q _ h => h.elim) (fun q h => h.elim) (fun q _ h => h.elim)
    (fun Ex ce q9 u9 t H1 locs ht hvm hw hB hz1 hk1 hS hce hcv hcl => ?_) (fun r4_0 u t H1 locs ht hvm hw hB hz1 hk1 hS => ?_)
  · have hP := hP.ro hk1
    have hX := hB
    generalize H1 = H at hP hS hce ⊢
    obtain ⟨hk9, hk0⟩ := hw
    have hle := tReg_le xr rn
    rcases (show u9 = 1 from by omega) with rfl
    · have hX : Ex = "java/lang/IndexOutOfBoundsException" := hX
      subst hX
      refine vx_catch (E := "java/lang/IndexOutOfBoundsException") (name := "java/lang/IndexOutOfBoundsException") hown [] (⟨0, 8, 11, 19⟩ : ExceptionTableEntry) [] (by rw [htab]; rfl) (fun z hz => nomatch hz) (by decide) (by decide) cl_19 (ev_cast hE (by decide +kernel)) hce hcv hcl ?_
      refine lv_astore_n (lv' := [(3, .ref q9), (0, .ref (ad 0)), (1, .int xr), (2, .ref o0)]) hx hb dL_inCore_11 rfl hl (by decide) rfl (fun ls hl => ?_)
      refine lv_iconst (v := 1) hx hb dL_inCore_12 (by decide) ?_
      have hB9 : va_P E.1 vwCl (mo 1 ((dC E ad S zs rn dy bn cn tn) ++ [(oD E o0 (vf_upd f0 0 (icR S zs (Int32.toNatClampNeg xr) cn)))]) (fun _ => ((dC E ad S zs rn dy bn cn tn) ++ [(oD E o0 f0)]))) H := hP
      exact W.iret (v := 1) hx hb hr (fun t ht hW => ⟨⟨_, 1, rfl, ⟨rfl, hk9⟩, by subst ht; exact hB9⟩, hS.F ht⟩) hS.2.2 dL_inCore_13
  · skip
    have hP := hP.ro hk1
    generalize H1 = H at hP hS ⊢
    obtain ⟨h_tc, hw⟩ := hw
    subst hw
    refine va_dast (i := 0) hx hb hE.1 hP hD hS 27 4 rfl rfl (by unfold vp_in; decide) dL_inCore_7 (fun H locs hP hD hS => ?_)
    rw [show Int32.toNatClampNeg (0 : Int32) = 0 from by decide] at hP hD
    have hP : va_P E.1 vwCl ((dC E ad S zs rn dy bn cn tn) ++ [(oD E o0 (vf_upd f0 0 (icR S zs (Int32.toNatClampNeg xr) cn)))]) H := hP
    have hD : va_D _ ((dC E ad S zs rn dy bn cn tn) ++ [(oD E o0 (vf_upd f0 0 (icR S zs (Int32.toNatClampNeg xr) cn)))]) := hD
    refine lv_goto (tgt := 14) hx hb dL_inCore_8 (by decide) ?_
    refine lv_iconst (v := 0) hx hb dL_inCore_14 (by decide) ?_
    have hB9 : va_P E.1 vwCl (mo 0 ((dC E ad S zs rn dy bn cn tn) ++ [(oD E o0 (vf_upd f0 0 (icR S zs (Int32.toNatClampNeg xr) cn)))]) (fun _ => ((dC E ad S zs rn dy bn cn tn) ++ [(oD E o0 f0)]))) H := hP
    exact W.iret (v := 0) hx hb hr (fun t ht hW => ⟨⟨_, 0, rfl, ⟨rfl, h_tc⟩, by subst ht; exact hB9⟩, hS.F ht⟩) hS.2.2 dL_inCore_15
set_option maxHeartbeats 4000000 in
set_option maxRecDepth 100000 in
theorem kL_addLeg (l : Launch) (hlt : l.stackTraces = false) (E : ev_T) (ad : Nat → Nat) (S : Nat → Nat → Int32) (zs : Nat → Nat) (rn : Nat) (dy : Nat) (bn : Nat) (cn : Nat) (tn : Nat) (xs : Int32) (xp : Int32) (o0 : Nat) (f0 : Nat → Int64) (sz : Nat) (hrn : rn ≤ 6) (hdy : dy ≤ 60) (htn : tn ≤ 20) : Met l yL_addLeg wsL_addLeg ({ frames := 7, cells := 2, slots := 12, locals := 104 } : Room) (va_Pc [.ref (ad 0), .int xs, .int xp, .ref o0] (pr_Y E ((dC E ad S zs rn dy bn cn tn) ++ [(oL E o0 f0)]) sz)) (va_Qi (fun (r : Int32) (k : Nat) => r = nI k ∧ k = tLeg xs xp tn) (fun k t => va_P E.1 vwCl (mo k ((dC E ad (va_up (va_up S 25 (upd (S 25) tn xs)) 26 (upd (S 26) tn xp)) zs rn dy bn cn (tn + 1)) ++ [(oL E o0 (vp_updL f0 0 (Int32.toInt64 (nI (tn + 1)))))]) (fun _ => ((dC E ad S zs rn dy bn cn tn) ++ [(oL E o0 f0)]))) t.heap) (va_A ((dC E ad S zs rn dy bn cn tn) ++ [(oL E o0 f0)]) sz)) 2 12 (va_A ((dC E ad S zs rn dy bn cn tn) ++ [(oL E o0 f0)]) sz) := by
  refine mz_ofWH (cc := cL_addLeg) (maxL := 5) (ret := (some .int)) (by decide +kernel) rfl ?_
  intro p e s m args below meth c s₁ B hml hv htab
  obtain ⟨rfl, hsz, hP, hD0, hE, hU9⟩ := hv
  have hx := B.exec
  have hb := B.bytes
  have hr := B.returns
  have hts := atoms_spec (ws := wsL_addLeg) B.pre
  have hown : s.vm.findClass RL = some m.cls := findClass_of_methodNamed B.named
  have hlocks := B.notSynchronized
  subst hsz
  have hD : va_D (va_A ((dC E ad S zs rn dy bn cn tn) ++ [(oL E o0 f0)]) s.heap.size) ((dC E ad S zs rn dy bn cn tn) ++ [(oL E o0 f0)]) := hD0.self
  have hA : ∀ q : Nat, s.heap.size ≤ q → (va_A ((dC E ad S zs rn dy bn cn tn) ++ [(oL E o0 f0)]) s.heap.size) q := fun q h => Or.inr h
  refine mz_start (fun H locs hH hL => ?_)
  have hS : va_S (va_A ((dC E ad S zs rn dy bn cn tn) ++ [(oL E o0 f0)]) s.heap.size) s.heap H locs := by rw [hH, hL]; exact va_S.rf
  have cl_21 := hts (.classLink RL 21 "java/lang/IllegalArgumentException") (by decide +kernel)
  have cl_13 := hts (.classLink RL 13 "java/lang/IllegalStateException") (by decide +kernel)
  have hl := lv_entry ([.ref (ad 0), .int xs, .int xp, .ref o0]) (n := 5) (Nat.le_of_ble_eq_true rfl)
  rw [lg_entry_eq]
  generalize (lg_sl ([.ref (ad 0), .int xs, .int xp, .ref o0]) ++ List.replicate (5 - (lg_sl ([.ref (ad 0), .int xs, .int xp, .ref o0])).length) Slot.unset).toArray = ls at hl ⊢
  have hl : lv_has ls 5 [(0, .ref (ad 0)), (1, .int xs), (2, .int xp), (3, .ref o0)] := hl
  have hP : va_P E.1 vwCl ((dC E ad S zs rn dy bn cn tn) ++ [(oL E o0 f0)]) H := by rw [hH]; exact hP
  refine lv_aload_n hx hb dL_addLeg_0 rfl (lv_at hl 3 rfl) ?_
  refine lv_iconst (v := 0) hx hb dL_addLeg_1 (by decide) ?_
  refine lv_aload_n hx hb dL_addLeg_2 rfl (lv_at hl 0 rfl) ?_
  refine lv_iload_n hx hb dL_addLeg_3 rfl (lv_at hl 1 rfl) ?_
  refine lv_iload_n hx hb dL_addLeg_4 rfl (lv_at hl 2 rfl) ?_
  have hFc := fr_free (w := (dC E ad S zs rn dy bn cn tn)) (fr_Dl hD) hS hA
  refine vx_calli (vx_runV (As := [.int xs, .int xp]) (rest := [.int 0, .ref o0]) ⟨hx, hb, hml, hown, hts⟩ (kX4_addLeg l hlt E ad S zs rn dy bn cn tn xs xp H.size (by first | omega | assumption | (intro k h; have := hz k h; omega)) (by first | omega | assumption | (intro k h; have := hz k h; omega)) (by first | omega | assumption | (intro k h; have := hz k h; omega))) (cwV 2 hts gL_addLeg_X4_addLeg rfl rfl rfl (by decide +kernel) ⟨Nat.le_of_ble_eq_true rfl, Nat.le_of_ble_eq_true rfl⟩) ⟨fb_Y, va_recv hE.1 hP (ci := 4) (q0 := 0) rfl rfl, fun U hU hW => ⟨rfl, by rw [hU], (by rw [hU]; exact fr_l hP), (fr_Dl hD).weaken (fun _ _ _ _ => trivial), hE.warm hW, hU9.to hS hFc hU hW⟩⟩ rfl rfl hl.1 rfl (lv_room (Nat.le_of_ble_eq_true rfl)) dL_addLeg_5 ⟨by first | exact Nat.le_of_ble_eq_true rfl | (show _ ≤ 2; omega), by first | exact Nat.le_of_ble_eq_true rfl | (show _ ≤ 12; omega)⟩) hS (fun q _ h => hFc q h) hFc (fun q _ h => hFc q h)
    (fun Ex ce q9 u9 t H1 locs ht hvm hw hB hz1 hk1 hS hce hcv hcl => ?_) (fun r5_0 u t H1 locs ht hvm hw hB hz1 hk1 hS => ?_)
  · obtain ⟨hX, hB⟩ := hB
    rw [ht] at hB
    obtain ⟨hP, hD⟩ := fr_call hD hP hB rfl hk1
    generalize H1 = H at hP hS hce ⊢
    obtain ⟨hk9, hk0⟩ := hw
    have hle := tLeg_le xs xp tn
    rcases (show u9 = 1 ∨ u9 = 2 from by omega) with rfl | rfl
    · have hX : Ex = "java/lang/IllegalArgumentException" := hX
      subst hX
      refine vx_catch (E := "java/lang/IllegalArgumentException") (name := "java/lang/IllegalArgumentException") hown [] (⟨0, 10, 13, 21⟩ : ExceptionTableEntry) [(⟨0, 10, 17, 13⟩ : ExceptionTableEntry)] (by rw [htab]; rfl) (fun z hz => nomatch hz) (by decide) (by decide) cl_21 (ev_cast hE (by decide +kernel)) hce hcv hcl ?_
      refine lv_astore (lv' := [(4, .ref q9), (0, .ref (ad 0)), (1, .int xs), (2, .int xp), (3, .ref o0)]) hx hb dL_addLeg_13 hl (by decide) rfl (fun ls hl => ?_)
      refine lv_iconst (v := 1) hx hb dL_addLeg_15 (by decide) ?_
      have hB9 : va_P E.1 vwCl (mo 1 ((dC E ad (va_up (va_up S 25 (upd (S 25) tn xs)) 26 (upd (S 26) tn xp)) zs rn dy bn cn (tn + 1)) ++ [(oL E o0 (vp_updL f0 0 (Int32.toInt64 (nI (tn + 1)))))]) (fun _ => ((dC E ad S zs rn dy bn cn tn) ++ [(oL E o0 f0)]))) H := hP
      exact W.iret (v := 1) hx hb hr (fun t ht hW => ⟨⟨_, 1, rfl, ⟨rfl, hk9⟩, by subst ht; exact hB9⟩, hS.F ht⟩) hS.2.2 dL_addLeg_16
    · have hX : Ex = "java/lang/IllegalStateException" := hX
      subst hX
      refine vx_catch (E := "java/lang/IllegalStateException") (name := "java/lang/IllegalStateException") hown [(⟨0, 10, 13, 21⟩ : ExceptionTableEntry)] (⟨0, 10, 17, 13⟩ : ExceptionTableEntry) [] (by rw [htab]; rfl) (fun z hz => by rcases (show z = (⟨0, 10, 13, 21⟩ : ExceptionTableEntry) from by simpa using hz) with rfl <;> first | exact Or.inr ⟨by decide, _, cl_21, hE.2.2.2.2 ("java/lang/IllegalStateException", "java/lang/IllegalArgumentException") (by decide +kernel)⟩) (by decide) (by decide) cl_13 (ev_cast hE (by decide +kernel)) hce hcv hcl ?_
      refine lv_astore (lv' := [(4, .ref q9), (0, .ref (ad 0)), (1, .int xs), (2, .int xp), (3, .ref o0)]) hx hb dL_addLeg_17 hl (by decide) rfl (fun ls hl => ?_)
      refine lv_iconst (v := 2) hx hb dL_addLeg_19 (by decide) ?_
      have hB9 : va_P E.1 vwCl (mo 2 ((dC E ad (va_up (va_up S 25 (upd (S 25) tn xs)) 26 (upd (S 26) tn xp)) zs rn dy bn cn (tn + 1)) ++ [(oL E o0 (vp_updL f0 0 (Int32.toInt64 (nI (tn + 1)))))]) (fun _ => ((dC E ad S zs rn dy bn cn tn) ++ [(oL E o0 f0)]))) H := hP
      exact W.iret (v := 2) hx hb hr (fun t ht hW => ⟨⟨_, 2, rfl, ⟨rfl, hk9⟩, by subst ht; exact hB9⟩, hS.F ht⟩) hS.2.2 dL_addLeg_20
  · skip
    rw [ht] at hB
    generalize hS9 : (va_up (va_up S 25 (upd (S 25) tn xs)) 26 (upd (S 26) tn xp)) = S9 at hB
    obtain ⟨hP, hD⟩ := fr_call hD hP hB (dC_fst _ _ _ _ _ _ _ _ _ _ _ _ _ _ _ _) hk1
    generalize H1 = H at hP hS ⊢
    obtain ⟨h_tc, hw⟩ := hw
    subst hw
    refine lv_i2l hx hb dL_addLeg_8 rfl ?_
    refine va_last (i := 0) hx hb hE.1 hP hD hS 27 3 rfl rfl (by unfold vp_in; decide) dL_addLeg_9 (fun H locs hP hD hS => ?_)
    rw [show Int32.toNatClampNeg (0 : Int32) = 0 from by decide] at hP hD
    have hP : va_P E.1 vwCl ((dC E ad S9 zs rn dy bn cn (tn + 1)) ++ [(oL E o0 (vp_updL f0 0 (Int32.toInt64 (nI (tn + 1)))))]) H := hP
    have hD : va_D _ ((dC E ad S9 zs rn dy bn cn (tn + 1)) ++ [(oL E o0 (vp_updL f0 0 (Int32.toInt64 (nI (tn + 1)))))]) := hD
    refine lv_goto (tgt := 21) hx hb dL_addLeg_10 (by decide) ?_
    refine lv_iconst (v := 0) hx hb dL_addLeg_21 (by decide) ?_
    subst hS9
    have hB9 : va_P E.1 vwCl (mo 0 ((dC E ad (va_up (va_up S 25 (upd (S 25) tn xs)) 26 (upd (S 26) tn xp)) zs rn dy bn cn (tn + 1)) ++ [(oL E o0 (vp_updL f0 0 (Int32.toInt64 (nI (tn + 1)))))]) (fun _ => ((dC E ad S zs rn dy bn cn tn) ++ [(oL E o0 f0)]))) H := hP
    exact W.iret (v := 0) hx hb hr (fun t ht hW => ⟨⟨_, 0, rfl, ⟨rfl, h_tc⟩, by subst ht; exact hB9⟩, hS.F ht⟩) hS.2.2 dL_addLeg_22
set_option maxHeartbeats 4000000 in
set_option maxRecDepth 100000 in
theorem kL_risk (l : Launch) (hlt : l.stackTraces = false) (E : ev_T) (ad : Nat → Nat) (S : Nat → Nat → Int32) (zs : Nat → Nat) (rn : Nat) (dy : Nat) (bn : Nat) (cn : Nat) (tn : Nat) (xr : Int32) (xl : Int32) (o0 : Nat) (f0 : Nat → Int64) (sz : Nat) (hrn : rn ≤ 6) (hdy : dy ≤ 60) (htn : tn ≤ 20) : Met l yL_risk wsL_risk ({ frames := 8, cells := 2, slots := 12, locals := 126 } : Room) (va_Pc [.ref (ad 0), .int xr, .int xl, .ref o0] (pr_Y E ((dC E ad S zs rn dy bn cn tn) ++ [(oL E o0 f0)]) sz)) (va_Qi (fun (r : Int32) (k : Nat) => r = nI k ∧ k = tRsk xr xl rn tn) (fun k t => va_P E.1 vwCl (mo k ((dC E ad S zs rn dy bn cn tn) ++ [(oL E o0 (vp_updL f0 0 (Int32.toInt64 (rkD (S (3 + 2 * (Int32.toNatClampNeg xr))) (S 25) (S 26) (Int32.toNatClampNeg xl)))))]) (fun _ => ((dC E ad S zs rn dy bn cn tn) ++ [(oL E o0 f0)]))) t.heap) (va_A ((dC E ad S zs rn dy bn cn tn) ++ [(oL E o0 f0)]) sz)) 2 12 (va_A ((dC E ad S zs rn dy bn cn tn) ++ [(oL E o0 f0)]) sz) := by
  refine mz_ofWH (cc := cL_risk) (maxL := 5) (ret := (some .int)) (by decide +kernel) rfl ?_
  intro p e s m args below meth c s₁ B hml hv htab
  obtain ⟨rfl, hsz, hP, hD0, hE, hU9⟩ := hv
  have hx := B.exec
  have hb := B.bytes
  have hr := B.returns
  have hts := atoms_spec (ws := wsL_risk) B.pre
  have hown : s.vm.findClass RL = some m.cls := findClass_of_methodNamed B.named
  have hlocks := B.notSynchronized
  subst hsz
  have hD : va_D (va_A ((dC E ad S zs rn dy bn cn tn) ++ [(oL E o0 f0)]) s.heap.size) ((dC E ad S zs rn dy bn cn tn) ++ [(oL E o0 f0)]) := hD0.self
  have hA : ∀ q : Nat, s.heap.size ≤ q → (va_A ((dC E ad S zs rn dy bn cn tn) ++ [(oL E o0 f0)]) s.heap.size) q := fun q h => Or.inr h
  refine mz_start (fun H locs hH hL => ?_)
  have hS : va_S (va_A ((dC E ad S zs rn dy bn cn tn) ++ [(oL E o0 f0)]) s.heap.size) s.heap H locs := by rw [hH, hL]; exact va_S.rf
  have cl_19 := hts (.classLink RL 19 "java/lang/IndexOutOfBoundsException") (by decide +kernel)
  have hl := lv_entry ([.ref (ad 0), .int xr, .int xl, .ref o0]) (n := 5) (Nat.le_of_ble_eq_true rfl)
  rw [lg_entry_eq]
  generalize (lg_sl ([.ref (ad 0), .int xr, .int xl, .ref o0]) ++ List.replicate (5 - (lg_sl ([.ref (ad 0), .int xr, .int xl, .ref o0])).length) Slot.unset).toArray = ls at hl ⊢
  have hl : lv_has ls 5 [(0, .ref (ad 0)), (1, .int xr), (2, .int xl), (3, .ref o0)] := hl
  have hP : va_P E.1 vwCl ((dC E ad S zs rn dy bn cn tn) ++ [(oL E o0 f0)]) H := by rw [hH]; exact hP
  refine lv_aload_n hx hb dL_risk_0 rfl (lv_at hl 3 rfl) ?_
  refine lv_iconst (v := 0) hx hb dL_risk_1 (by decide) ?_
  refine lv_aload_n hx hb dL_risk_2 rfl (lv_at hl 0 rfl) ?_
  refine lv_iload_n hx hb dL_risk_3 rfl (lv_at hl 1 rfl) ?_
  refine lv_iload_n hx hb dL_risk_4 rfl (lv_at hl 2 rfl) ?_
  refine vx_calli (vx_runV (As := [.int xr, .int xl]) (rest := [.int 0, .ref o0]) ⟨hx, hb, hml, hown, hts⟩ (kX4_risk l hlt E ad S zs rn dy bn cn tn xr xl (by first | omega | assumption | (intro k h; have := hz k h; omega)) (by first | omega | assumption | (intro k h; have := hz k h; omega)) (by first | omega | assumption | (intro k h; have := hz k h; omega))) (cwV 2 hts gL_risk_X4_risk rfl rfl rfl (by decide +kernel) ⟨Nat.le_of_ble_eq_true rfl, Nat.le_of_ble_eq_true rfl⟩) ⟨fb_X, va_recv hE.1 hP (ci := 4) (q0 := 0) rfl rfl, fun U hU hW => ⟨rfl, (by rw [hU]; exact fr_l hP), hE.warm hW, hU9.to hS (fun _ h => h.elim) hU hW⟩⟩ rfl rfl hl.1 rfl (lv_room (Nat.le_of_ble_eq_true rfl)) dL_risk_5 ⟨by first | exact Nat.le_of_ble_eq_true rfl | (show _ ≤ 2; omega), by first | exact Nat.le_of_ble_eq_true rfl | (show _ ≤ 12; omega)⟩) hS (fun q _ h => h.elim) (fun q h => h.elim) (fun q _ h => h.elim)
    (fun Ex ce q9 u9 t H1 locs ht hvm hw hB hz1 hk1 hS hce hcv hcl => ?_) (fun r5_0 u t H1 locs ht hvm hw hB hz1 hk1 hS => ?_)
  · have hP := hP.ro hk1
    have hX := hB
    generalize H1 = H at hP hS hce ⊢
    obtain ⟨hk9, hk0⟩ := hw
    have hle := tRsk_le xr xl rn tn
    rcases (show u9 = 1 from by omega) with rfl
    · have hX : Ex = "java/lang/IndexOutOfBoundsException" := hX
      subst hX
      refine vx_catch (E := "java/lang/IndexOutOfBoundsException") (name := "java/lang/IndexOutOfBoundsException") hown [] (⟨0, 10, 13, 19⟩ : ExceptionTableEntry) [] (by rw [htab]; rfl) (fun z hz => nomatch hz) (by decide) (by decide) cl_19 (ev_cast hE (by decide +kernel)) hce hcv hcl ?_
      refine lv_astore (lv' := [(4, .ref q9), (0, .ref (ad 0)), (1, .int xr), (2, .int xl), (3, .ref o0)]) hx hb dL_risk_13 hl (by decide) rfl (fun ls hl => ?_)
      refine lv_iconst (v := 1) hx hb dL_risk_15 (by decide) ?_
      have hB9 : va_P E.1 vwCl (mo 1 ((dC E ad S zs rn dy bn cn tn) ++ [(oL E o0 (vp_updL f0 0 (Int32.toInt64 (rkD (S (3 + 2 * (Int32.toNatClampNeg xr))) (S 25) (S 26) (Int32.toNatClampNeg xl)))))]) (fun _ => ((dC E ad S zs rn dy bn cn tn) ++ [(oL E o0 f0)]))) H := hP
      exact W.iret (v := 1) hx hb hr (fun t ht hW => ⟨⟨_, 1, rfl, ⟨rfl, hk9⟩, by subst ht; exact hB9⟩, hS.F ht⟩) hS.2.2 dL_risk_16
  · skip
    have hP := hP.ro hk1
    generalize H1 = H at hP hS ⊢
    obtain ⟨h_tc, hw⟩ := hw
    subst hw
    refine lv_i2l hx hb dL_risk_8 rfl ?_
    refine va_last (i := 0) hx hb hE.1 hP hD hS 27 3 rfl rfl (by unfold vp_in; decide) dL_risk_9 (fun H locs hP hD hS => ?_)
    rw [show Int32.toNatClampNeg (0 : Int32) = 0 from by decide] at hP hD
    have hP : va_P E.1 vwCl ((dC E ad S zs rn dy bn cn tn) ++ [(oL E o0 (vp_updL f0 0 (Int32.toInt64 (rkD (S (3 + 2 * (Int32.toNatClampNeg xr))) (S 25) (S 26) (Int32.toNatClampNeg xl)))))]) H := hP
    have hD : va_D _ ((dC E ad S zs rn dy bn cn tn) ++ [(oL E o0 (vp_updL f0 0 (Int32.toInt64 (rkD (S (3 + 2 * (Int32.toNatClampNeg xr))) (S 25) (S 26) (Int32.toNatClampNeg xl)))))]) := hD
    refine lv_goto (tgt := 17) hx hb dL_risk_10 (by decide) ?_
    refine lv_iconst (v := 0) hx hb dL_risk_17 (by decide) ?_
    have hB9 : va_P E.1 vwCl (mo 0 ((dC E ad S zs rn dy bn cn tn) ++ [(oL E o0 (vp_updL f0 0 (Int32.toInt64 (rkD (S (3 + 2 * (Int32.toNatClampNeg xr))) (S 25) (S 26) (Int32.toNatClampNeg xl)))))]) (fun _ => ((dC E ad S zs rn dy bn cn tn) ++ [(oL E o0 f0)]))) H := hP
    exact W.iret (v := 0) hx hb hr (fun t ht hW => ⟨⟨_, 0, rfl, ⟨rfl, h_tc⟩, by subst ht; exact hB9⟩, hS.F ht⟩) hS.2.2 dL_risk_18
set_option maxHeartbeats 4000000 in
set_option maxRecDepth 100000 in
theorem kL_worstLeg (l : Launch) (hlt : l.stackTraces = false) (E : ev_T) (ad : Nat → Nat) (S : Nat → Nat → Int32) (zs : Nat → Nat) (rn : Nat) (dy : Nat) (bn : Nat) (cn : Nat) (tn : Nat) (xr : Int32) (o0 : Nat) (f0 : Nat → Int64) (sz : Nat) (hrn : rn ≤ 6) (hdy : dy ≤ 60) (htn : tn ≤ 20) : Met l yL_worstLeg wsL_worstLeg ({ frames := 8, cells := 1, slots := 6, locals := 125 } : Room) (va_Pc [.ref (ad 0), .int xr, .ref o0] (pr_Y E ((dC E ad S zs rn dy bn cn tn) ++ [(oL E o0 f0)]) sz)) (va_Qi (fun (r : Int32) (k : Nat) => r = nI k ∧ k = tReg xr rn) (fun k t => va_P E.1 vwCl (mo k ((dC E ad S zs rn dy bn cn tn) ++ [(oL E o0 (vp_updL f0 0 (Int32.toInt64 ((wsF (levA (S (3 + 2 * (Int32.toNatClampNeg xr)))) (corD (S (3 + 2 * (Int32.toNatClampNeg xr)))) (S 25) (S 26) tn).1))))]) (fun _ => ((dC E ad S zs rn dy bn cn tn) ++ [(oL E o0 f0)]))) t.heap) (va_A ((dC E ad S zs rn dy bn cn tn) ++ [(oL E o0 f0)]) sz)) 1 6 (va_A ((dC E ad S zs rn dy bn cn tn) ++ [(oL E o0 f0)]) sz) := by
  refine mz_ofWH (cc := cL_worstLeg) (maxL := 4) (ret := (some .int)) (by decide +kernel) rfl ?_
  intro p e s m args below meth c s₁ B hml hv htab
  obtain ⟨rfl, hsz, hP, hD0, hE, hU9⟩ := hv
  have hx := B.exec
  have hb := B.bytes
  have hr := B.returns
  have hts := atoms_spec (ws := wsL_worstLeg) B.pre
  have hown : s.vm.findClass RL = some m.cls := findClass_of_methodNamed B.named
  have hlocks := B.notSynchronized
  subst hsz
  have hD : va_D (va_A ((dC E ad S zs rn dy bn cn tn) ++ [(oL E o0 f0)]) s.heap.size) ((dC E ad S zs rn dy bn cn tn) ++ [(oL E o0 f0)]) := hD0.self
  have hA : ∀ q : Nat, s.heap.size ≤ q → (va_A ((dC E ad S zs rn dy bn cn tn) ++ [(oL E o0 f0)]) s.heap.size) q := fun q h => Or.inr h
  refine mz_start (fun H locs hH hL => ?_)
  have hS : va_S (va_A ((dC E ad S zs rn dy bn cn tn) ++ [(oL E o0 f0)]) s.heap.size) s.heap H locs := by rw [hH, hL]; exact va_S.rf
  have cl_19 := hts (.classLink RL 19 "java/lang/IndexOutOfBoundsException") (by decide +kernel)
  have hl := lv_entry ([.ref (ad 0), .int xr, .ref o0]) (n := 4) (Nat.le_of_ble_eq_true rfl)
  rw [lg_entry_eq]
  generalize (lg_sl ([.ref (ad 0), .int xr, .ref o0]) ++ List.replicate (4 - (lg_sl ([.ref (ad 0), .int xr, .ref o0])).length) Slot.unset).toArray = ls at hl ⊢
  have hl : lv_has ls 4 [(0, .ref (ad 0)), (1, .int xr), (2, .ref o0)] := hl
  have hP : va_P E.1 vwCl ((dC E ad S zs rn dy bn cn tn) ++ [(oL E o0 f0)]) H := by rw [hH]; exact hP
  refine lv_aload_n hx hb dL_worstLeg_0 rfl (lv_at hl 2 rfl) ?_
  refine lv_iconst (v := 0) hx hb dL_worstLeg_1 (by decide) ?_
  refine lv_aload_n hx hb dL_worstLeg_2 rfl (lv_at hl 0 rfl) ?_
  refine lv_iload_n hx hb dL_worstLeg_3 rfl (lv_at hl 1 rfl) ?_
  refine vx_calli (vx_runV (As := [.int xr]) (rest := [.int 0, .ref o0]) ⟨hx, hb, hml, hown, hts⟩ (kX4_worstLeg l hlt E ad S zs rn dy bn cn tn xr (by first | omega | assumption | (intro k h; have := hz k h; omega)) (by first | omega | assumption | (intro k h; have := hz k h; omega)) (by first | omega | assumption | (intro k h; have := hz k h; omega))) (cwV 1 hts gL_worstLeg_X4_worstLeg rfl rfl rfl (by decide +kernel) ⟨Nat.le_of_ble_eq_true rfl, Nat.le_of_ble_eq_true rfl⟩) ⟨fb_X, va_recv hE.1 hP (ci := 4) (q0 := 0) rfl rfl, fun U hU hW => ⟨rfl, (by rw [hU]; exact fr_l hP), hE.warm hW, hU9.to hS (fun _ h => h.elim) hU hW⟩⟩ rfl rfl hl.1 rfl (lv_room (Nat.le_of_ble_eq_true rfl)) dL_worstLeg_4 ⟨by first | exact Nat.le_of_ble_eq_true rfl | (show _ ≤ 1; omega), by first | exact Nat.le_of_ble_eq_true rfl | (show _ ≤ 6; omega)⟩) hS (fun q _ h => h.elim) (fun q h => h.elim) (fun q _ h => h.elim)
    (fun Ex ce q9 u9 t H1 locs ht hvm hw hB hz1 hk1 hS hce hcv hcl => ?_) (fun r4_0 u t H1 locs ht hvm hw hB hz1 hk1 hS => ?_)
  · have hP := hP.ro hk1
    have hX := hB
    generalize H1 = H at hP hS hce ⊢
    obtain ⟨hk9, hk0⟩ := hw
    have hle := tReg_le xr rn
    rcases (show u9 = 1 from by omega) with rfl
    · have hX : Ex = "java/lang/IndexOutOfBoundsException" := hX
      subst hX
      refine vx_catch (E := "java/lang/IndexOutOfBoundsException") (name := "java/lang/IndexOutOfBoundsException") hown [] (⟨0, 9, 12, 19⟩ : ExceptionTableEntry) [] (by rw [htab]; rfl) (fun z hz => nomatch hz) (by decide) (by decide) cl_19 (ev_cast hE (by decide +kernel)) hce hcv hcl ?_
      refine lv_astore_n (lv' := [(3, .ref q9), (0, .ref (ad 0)), (1, .int xr), (2, .ref o0)]) hx hb dL_worstLeg_12 rfl hl (by decide) rfl (fun ls hl => ?_)
      refine lv_iconst (v := 1) hx hb dL_worstLeg_13 (by decide) ?_
      have hB9 : va_P E.1 vwCl (mo 1 ((dC E ad S zs rn dy bn cn tn) ++ [(oL E o0 (vp_updL f0 0 (Int32.toInt64 ((wsF (levA (S (3 + 2 * (Int32.toNatClampNeg xr)))) (corD (S (3 + 2 * (Int32.toNatClampNeg xr)))) (S 25) (S 26) tn).1))))]) (fun _ => ((dC E ad S zs rn dy bn cn tn) ++ [(oL E o0 f0)]))) H := hP
      exact W.iret (v := 1) hx hb hr (fun t ht hW => ⟨⟨_, 1, rfl, ⟨rfl, hk9⟩, by subst ht; exact hB9⟩, hS.F ht⟩) hS.2.2 dL_worstLeg_14
  · skip
    have hP := hP.ro hk1
    generalize H1 = H at hP hS ⊢
    obtain ⟨h_tc, hw⟩ := hw
    subst hw
    refine lv_i2l hx hb dL_worstLeg_7 rfl ?_
    refine va_last (i := 0) hx hb hE.1 hP hD hS 27 3 rfl rfl (by unfold vp_in; decide) dL_worstLeg_8 (fun H locs hP hD hS => ?_)
    rw [show Int32.toNatClampNeg (0 : Int32) = 0 from by decide] at hP hD
    have hP : va_P E.1 vwCl ((dC E ad S zs rn dy bn cn tn) ++ [(oL E o0 (vp_updL f0 0 (Int32.toInt64 ((wsF (levA (S (3 + 2 * (Int32.toNatClampNeg xr)))) (corD (S (3 + 2 * (Int32.toNatClampNeg xr)))) (S 25) (S 26) tn).1))))]) H := hP
    have hD : va_D _ ((dC E ad S zs rn dy bn cn tn) ++ [(oL E o0 (vp_updL f0 0 (Int32.toInt64 ((wsF (levA (S (3 + 2 * (Int32.toNatClampNeg xr)))) (corD (S (3 + 2 * (Int32.toNatClampNeg xr)))) (S 25) (S 26) tn).1))))]) := hD
    refine lv_goto (tgt := 15) hx hb dL_worstLeg_9 (by decide) ?_
    refine lv_iconst (v := 0) hx hb dL_worstLeg_15 (by decide) ?_
    have hB9 : va_P E.1 vwCl (mo 0 ((dC E ad S zs rn dy bn cn tn) ++ [(oL E o0 (vp_updL f0 0 (Int32.toInt64 ((wsF (levA (S (3 + 2 * (Int32.toNatClampNeg xr)))) (corD (S (3 + 2 * (Int32.toNatClampNeg xr)))) (S 25) (S 26) tn).1))))]) (fun _ => ((dC E ad S zs rn dy bn cn tn) ++ [(oL E o0 f0)]))) H := hP
    exact W.iret (v := 0) hx hb hr (fun t ht hW => ⟨⟨_, 0, rfl, ⟨rfl, h_tc⟩, by subst ht; exact hB9⟩, hS.F ht⟩) hS.2.2 dL_worstLeg_16
