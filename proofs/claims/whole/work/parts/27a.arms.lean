/-! the law: its world in four pieces that lie apart -/
def mC (E : ev_T) (mm : Nat → Nat) (th : Int32) (md mr ms ml : Nat) (NU WE AT : Nat → Int32) (zs : Nat → Nat) (BU AV LS LT : Nat → Int32) : va_W := [((mm 0), .inr (5, [.int th, .int (nI md), .int (nI mr), .ref (mm 1), .ref (mm 2), .ref (mm 3), .ref (mm 4), .ref (mm 5), .int (nI ms), .ref (mm 6), .int (nI ml), .ref (mm 7), .ref (mm 8)])), ((mm 1), .inl (E.2.1 0, 360, .inl NU)), ((mm 2), .inl (E.2.1 0, 24, .inl WE)), ((mm 3), .inl (E.2.1 1, 6, .inl AT)), ((mm 4), .inl (E.2.1 0, 61, .inl (nF zs))), ((mm 5), .inl (E.2.1 0, 1098, .inl BU)), ((mm 6), .inl (E.2.1 0, 800, .inl AV)), ((mm 7), .inl (E.2.1 0, 20, .inl LS)), ((mm 8), .inl (E.2.1 0, 20, .inl LT))]
theorem mC_fst (E : ev_T) (mm : Nat → Nat) (th th' : Int32) (md mr ms ml md' mr' ms' ml' : Nat) (NU WE AT NU' WE' AT' : Nat → Int32) (zs zs' : Nat → Nat) (BU AV LS LT BU' AV' LS' LT' : Nat → Int32) : (mC E mm th md mr ms ml NU WE AT zs BU AV LS LT).map (fun q => q.1) = (mC E mm th' md' mr' ms' ml' NU' WE' AT' zs' BU' AV' LS' LT').map (fun q => q.1) := by
  simp only [mC, List.map_cons, List.map_nil]
def ap (w r : va_W) : Prop := ∀ (i j : Nat) (p q : Nat × va_E), w[i]? = some p → r[j]? = some q → p.1 ≠ q.1
theorem ap.comm {w r : va_W} (h : ap w r) : ap r w := fun i j p q hi hj e => h j i q p hj hi e.symm
theorem ap.left {w1 w2 r : va_W} (h : ap (w1 ++ w2) r) : ap w1 r := fun i j p q hi hj => h i j p q (by rw [List.getElem?_append_left (List.getElem?_eq_some_iff.mp hi).1]; exact hi) hj
theorem ap.right {w1 w2 r : va_W} (h : ap (w1 ++ w2) r) : ap w2 r := fun _ j p q hi hj => h _ j p q (fr_at hi) hj
theorem ap.both {w1 w2 r : va_W} (h1 : ap w1 r) (h2 : ap w2 r) : ap (w1 ++ w2) r := by
  intro i j p q hi hj
  by_cases hl : i < w1.length
  · rw [List.getElem?_append_left hl] at hi; exact h1 i j p q hi hj
  · rw [List.getElem?_append_right (by omega)] at hi; exact h2 _ j p q hi hj
theorem ap.same {w r w' r' : va_W} (h : ap w r) (e1 : w'.map (fun q => q.1) = w.map (fun q => q.1)) (e2 : r'.map (fun q => q.1) = r.map (fun q => q.1)) : ap w' r' := by
  have key : ∀ {a b : va_W}, a.map (fun q => q.1) = b.map (fun q => q.1) → ∀ (k : Nat) (q : Nat × va_E), a[k]? = some q → ∃ q0, b[k]? = some q0 ∧ q0.1 = q.1 := by
    intro a b e k q hk
    have h1 : (a.map (fun q => q.1))[k]? = some q.1 := by rw [List.getElem?_map, hk]; rfl
    rw [e, List.getElem?_map] at h1
    cases hb : b[k]? with
    | none => rw [hb] at h1; cases h1
    | some z => rw [hb] at h1; exact ⟨z, rfl, Option.some.inj h1⟩
  intro i j p q hi hj
  obtain ⟨p0, hp, ep⟩ := key e1 i p hi
  obtain ⟨q0, hq, eq⟩ := key e2 j q hj
  rw [← ep, ← eq]
  exact h i j p0 q0 hp hq
theorem ap_of {A : Nat → Prop} {w r : va_W} (h : va_D A (w ++ r)) : ap w r := by
  intro i j p q hi hj e
  have hl : i < w.length := (List.getElem?_eq_some_iff.mp hi).1
  have := h.1 i (w.length + j) p q (by rw [List.getElem?_append_left hl]; exact hi) (fr_at hj) e
  omega
theorem fr_Dr {A : Nat → Prop} {w r : va_W} (h : va_D A (w ++ r)) : va_D A r :=
  ⟨fun i j p q hi hj e => by have := h.1 _ _ p q (fr_at hi) (fr_at hj) e; omega, fun _ q hk => h.2 _ q (fr_at hk)⟩
theorem ap_keep {D : va_G} {cl : List vw_C} {w r : va_W} {H H1 : Heap} (ha : ap w r) (hP : va_P D cl r H) (hk : ∀ q : Nat, q < H.size → ¬ va_A w H.size q → H1[q]? = H[q]?) : va_P D cl r H1 :=
  hP.kept fun k q hq => hk q.1 ((hP k q hq).lt) (by
    rintro (⟨j, e, hj⟩ | h)
    · exact ha j k _ q hj hq rfl
    · exact Nat.not_lt.mpr h ((hP k q hq).lt))
def LD (E : ev_T) (ad mm : Nat → Nat) (o0 d0 : Nat) (A : Nat → Prop) : Prop :=
  (∀ S zs rn dy bn cn tn, va_D A (dC E ad S zs rn dy bn cn tn)) ∧ (∀ f, va_D A [oL E o0 f]) ∧ (∀ th md mr ms ml NU WE AT zs BU AV LS LT, va_D A (mC E mm th md mr ms ml NU WE AT zs BU AV LS LT)) ∧ (∀ g, va_D A [oD E d0 g]) ∧
  (∀ S zs rn dy bn cn tn f, ap (dC E ad S zs rn dy bn cn tn) [oL E o0 f]) ∧
  (∀ S zs rn dy bn cn tn th md mr ms ml NU WE AT zs' BU AV LS LT, ap (dC E ad S zs rn dy bn cn tn) (mC E mm th md mr ms ml NU WE AT zs' BU AV LS LT)) ∧
  (∀ S zs rn dy bn cn tn g, ap (dC E ad S zs rn dy bn cn tn) [oD E d0 g]) ∧
  (∀ f th md mr ms ml NU WE AT zs BU AV LS LT, ap [oL E o0 f] (mC E mm th md mr ms ml NU WE AT zs BU AV LS LT)) ∧
  (∀ f g, ap [oL E o0 f] [oD E d0 g]) ∧
  (∀ th md mr ms ml NU WE AT zs BU AV LS LT g, ap (mC E mm th md mr ms ml NU WE AT zs BU AV LS LT) [oD E d0 g])
theorem LD_of {E : ev_T} {ad mm : Nat → Nat} {o0 d0 : Nat} {A : Nat → Prop} {S : Nat → Nat → Int32} {zs zs' : Nat → Nat} {rn dy bn cn tn md mr ms ml : Nat} {th : Int32} {NU WE AT BU AV LS LT : Nat → Int32} {f : Nat → Int64} {g : Nat → UInt64}
    (h : va_D A (((dC E ad S zs rn dy bn cn tn ++ mC E mm th md mr ms ml NU WE AT zs' BU AV LS LT) ++ [oL E o0 f]) ++ [oD E d0 g])) : LD E ad mm o0 d0 A := by
  have ef : ∀ f', [oL E o0 f'].map (fun q => q.1) = [oL E o0 f].map (fun q => q.1) := fun _ => rfl
  have eg : ∀ g', [oD E d0 g'].map (fun q => q.1) = [oD E d0 g].map (fun q => q.1) := fun _ => rfl
  have h3 := fr_Dl h
  have h2 := fr_Dl h3
  refine ⟨fun S' zs2 a b c d e => (fr_Dl h2).same (dC_fst ..), fun f' => (fr_Dr h3).same (ef f'), ?_, fun g' => (fr_Dr h).same (eg g'), ?_, ?_, ?_, ?_, ?_, ?_⟩
  · intros; exact (fr_Dr h2).same (mC_fst ..)
  · intros; exact (ap_of h3).left.same (dC_fst ..) (ef _)
  · intros; exact (ap_of h2).same (dC_fst ..) (mC_fst ..)
  · intros; exact (ap_of h).left.left.same (dC_fst ..) (eg _)
  · intros; exact (ap_of h3).right.comm.same (ef _) (mC_fst ..)
  · intros; exact (ap_of h).right.same (ef _) (eg _)
  · intros; exact (ap_of h).left.right.same (mC_fst ..) (eg _)
/-- the law's world at its loop's head -/
def LX (E : ev_T) (ad mm : Nat → Nat) (o0 d0 : Nat) (H : Heap) : Prop :=
  ∃ (S : Nat → Nat → Int32) (zs : Nat → Nat) (rn dy bn cn tn : Nat) (th : Int32) (NU WE AT BU AV LS LT : Nat → Int32) (f : Nat → Int64) (g : Nat → UInt64), RK S zs rn dy bn cn tn NU WE AT BU AV LS LT ∧
    va_P E.1 vwCl (dC E ad S zs rn dy bn cn tn) H ∧ va_P E.1 vwCl [oL E o0 f] H ∧ va_P E.1 vwCl (mC E mm th dy rn cn tn NU WE AT zs BU AV LS LT) H ∧ va_P E.1 vwCl [oD E d0 g] H
section LAWR
variable {p : Program} {l : Launch} {e : Env} {R : Room} {s : State} {m : MethodId} {args : Array Value} {below : List Frame} {meth : Method} {c : Code} {H : Heap} {locs : List Loc} {cells slots : Nat} {Q : State → Prop}
variable {cc : ByteArray} {pc : Nat} {ls : Array Slot} {rest : List Value} {A : Nat → Prop} {H0 : Heap}
theorem la_sld (hexec : p.tables.exec = Jvm.exec) (hb : c.code = cc) {b L : Nat} {xs : Nat → Int32} (hX : va_X b L xs s H0) (hbl : b < H0.size) (hbA : ¬ A b) (hS : va_S A H0 H locs) (n : Nat) (hn : n < L) (hL : L ≤ 3072) (hdg : decode cc pc = .ok (.iaload, 1))
    (k : W p l e R s m args below meth c H locs cells slots Q (F0 m (pc + 1) ls (.int (xs n) :: rest))) : W p l e R s m args below meth c H locs cells slots Q (F0 m pc ls (.int (nI n) :: .ref b :: rest)) :=
  va_sld hexec hb hX hbl hbA hS (vp_in_iff.mpr ⟨by rw [nI_toInt (by omega)]; omega, by rw [nI_toInt (by omega)]; omega⟩) hdg (by rw [nI_clamp (by omega)]; exact k)
theorem la_lld (hexec : p.tables.exec = Jvm.exec) (hb : c.code = cc) {E : ev_T} (hE : ev_U E s) {o0 : Nat} {f : Nat → Int64} (hP : va_P E.1 vwCl [oL E o0 f] H) (hdg : decode cc pc = .ok (.laload, 1))
    (k : W p l e R s m args below meth c H locs cells slots Q (F0 m (pc + 1) ls (.long (f 0) :: rest))) : W p l e R s m args below meth c H locs cells slots Q (F0 m pc ls (.int 0 :: .ref o0 :: rest)) :=
  va_lald (i := 0) hexec hb hE.1 hP 0 3 rfl rfl (by unfold vp_in; decide) hdg (by rw [show Int32.toNatClampNeg (0 : Int32) = 0 from by decide]; exact k)
theorem la_dld (hexec : p.tables.exec = Jvm.exec) (hb : c.code = cc) {E : ev_T} (hE : ev_U E s) {d0 : Nat} {f : Nat → UInt64} (hP : va_P E.1 vwCl [oD E d0 f] H) (hdg : decode cc pc = .ok (.daload, 1))
    (k : W p l e R s m args below meth c H locs cells slots Q (F0 m (pc + 1) ls (.double (f 0) :: rest))) : W p l e R s m args below meth c H locs cells slots Q (F0 m pc ls (.int 0 :: .ref d0 :: rest)) :=
  va_dald (i := 0) hexec hb hE.1 hP 0 4 rfl rfl (by unfold vp_in; decide) hdg (by rw [show Int32.toNatClampNeg (0 : Int32) = 0 from by decide]; exact k)
theorem la_ne (x : Int64) : ¬ x < x := fun h => by
  have := Int64.lt_iff_toInt_lt.mp h
  omega
theorem la_cmp (x : Int64) : lg_cmp x x = 0 := by
  unfold lg_cmp
  rw [if_neg (show ¬ x > x from la_ne x)]
  first | rw [if_neg (show ¬ x < x from la_ne x)] | rw [if_pos rfl]
theorem la_eqL (hexec : p.tables.exec = Jvm.exec) (hb : c.code = cc) {x y : Int64} (h : x = y) {off : Int} {tgt : Nat} (hd1 : decode cc pc = .ok (.lcmp, 1)) (hd2 : decode cc (pc + 1) = .ok (.ifCond .eq off, 3)) (ht : ((pc + 1 : Nat) : Int) + off = (tgt : Int))
    (k : W p l e R s m args below meth c H locs cells slots Q (F0 m tgt ls rest)) : W p l e R s m args below meth c H locs cells slots Q (F0 m pc ls (.long y :: .long x :: rest)) := by
  subst h
  refine W.lcmp hexec hb hd1 ?_
  rw [la_cmp]
  exact lv_if_eq hexec hb hd2 ht (fun _ => k) (fun q => absurd rfl q)
end LAWR
theorem and31 (x : Int32) : ∃ k, k < 32 ∧ x &&& 31 = nI k := by
  refine ⟨x.toBitVec.toNat % 32, Nat.mod_lt _ (by decide), Int32.toBitVec_inj.mp (BitVec.eq_of_toNat_eq ?_)⟩
  rw [Int32.toBitVec_and, BitVec.toNat_and]
  show x.toBitVec.toNat &&& 31 = _
  rw [show x.toBitVec.toNat &&& 31 = x.toBitVec.toNat % 32 from Nat.and_two_pow_sub_one_eq_mod _ 5]
  show _ = (BitVec.ofNat 32 (x.toBitVec.toNat % 32)).toNat
  rw [BitVec.toNat_ofNat]
  omega
set_option maxHeartbeats 4000000 in
set_option maxRecDepth 100000 in
theorem arm_addRegion {p : Program} {e : Env} {s : State} {m : MethodId} {below : List Frame} {meth : Method} {c : Code} (l : Launch) (hlt : l.stackTraces = false) {b L : Nat} {xs : Nat → Int32} (hL : L ≤ 3072) (C0 : lw_At p s m meth c b L xs) {E : ev_T} {ad mm : Nat → Nat} {o0 d0 : Nat} (hE : ev_U E s) (hU9 : ex_U (fun q : Nat => s.heap.size ≤ q) s s.heap) (hLD : LD E ad mm o0 d0 (fun q : Nat => s.heap.size ≤ q)) {i cl sl : Nat} (hi : i + 6 ≤ L) (hcl : cl + 740 ≤ 601024) (hsl : sl + 3700 ≤ 7293034)
    (K : ∀ (H : Heap) (locs : List Loc) (ls : Array Slot), LX E ad mm o0 d0 H → va_S (fun q : Nat => s.heap.size ≤ q) s.heap H locs → lv_has ls 9 [(0, .ref b), (1, .ref (ad 0)), (2, .ref (mm 0)), (3, .ref o0), (4, .ref d0), (5, .int (nI i))] → W p l e room_1 s m #[Value.ref b] below meth c H locs (cl + 740) (sl + 3700) (lw_Z below #[Value.ref b] s) (F0 m 1642 ls []))
    {H : Heap} {locs : List Loc} {ls : Array Slot} (hX0 : LX E ad mm o0 d0 H) (hS : va_S (fun q : Nat => s.heap.size ≤ q) s.heap H locs) (hl : lv_has ls 9 [(0, .ref b), (1, .ref (ad 0)), (2, .ref (mm 0)), (3, .ref o0), (4, .ref d0), (5, .int (nI i))]) : W p l e room_1 s m #[Value.ref b] below meth c H locs cl sl (lw_Z below #[Value.ref b] s) (F0 m 160 ls []) := by
  obtain ⟨hx, hb, hr, hml, hown, hts0, hX, hbl, hlocks, hgv⟩ := id C0
  have hts : ∀ w ∈ wsL_law, w.before #[Value.ref b] s = true := fun w h => hts0 w (wsL_law_in w h)
  have hown : s.vm.findClass RL = some m.cls := hown
  obtain ⟨S, zs, rn, dy, bn, cn, tn, th, NU, WE, AT, BU, AV, LS, LT, f0, g0, hR, hPd, hPo, hPm, hPg⟩ := hX0
  obtain ⟨d1, d2, d3, d4, a12, a13, a14, a23, a24, a34⟩ := hLD
  have hA : ∀ q : Nat, s.heap.size ≤ q → (fun q : Nat => s.heap.size ≤ q) q := fun _ h => h
  have hbA : ¬ (fun q : Nat => s.heap.size ≤ q) b := Nat.not_le.mpr hbl
  obtain ⟨h6, h60, h200, h20⟩ := hR.1
  have hz := hR.hz
  refine lv_aload_n hx hb dL_law_160 rfl (lv_at hl 1 rfl) ?_
  refine lv_aload_n hx hb dL_law_161 rfl (lv_at hl 3 rfl) ?_
  have hPw : va_P E.1 vwCl ((dC E ad S zs rn dy bn cn tn) ++ [oL E o0 f0]) H := hPd.app hPo
  have hDw : va_D (fun q : Nat => s.heap.size ≤ q) ((dC E ad S zs rn dy bn cn tn) ++ [oL E o0 f0]) := (d1 _ _ _ _ _ _ _).app (d2 _) (a12 _ _ _ _ _ _ _ _)
  have hFc := fr_free hDw hS hA
  refine va_calli (vx_runSW (As := [.ref (ad 0), .ref o0]) (rest := []) ⟨hx, hb, hml, hown, hts⟩ (kL_addRegion l hlt E ad S zs rn dy bn cn tn  o0 f0 H.size (by first | omega | assumption | exact h60 | exact h6 | exact h20 | exact h200) (by first | omega | assumption | exact h60 | exact h6 | exact h20 | exact h200)) (vx_cwSW 2 hts gL_law_L_addRegion rfl rfl rfl (by decide +kernel) ⟨Nat.le_of_ble_eq_true rfl, Nat.le_of_ble_eq_true rfl⟩) ⟨fb_Y, fun U hU hW => ⟨rfl, by rw [hU], by rw [hU]; exact hPw, hDw.weaken (fun _ _ _ _ => trivial), hE.warm hW, hU9.to hS hFc hU hW⟩⟩ rfl rfl hl.1 rfl (lv_room (Nat.le_of_ble_eq_true rfl)) dL_law_162 ⟨by show _ ≤ 601024; omega, by show _ ≤ 7293034; omega⟩) hS (fun q _ h => hFc q h) hFc (fun r9 k t H1 locs ht hvm hw hB hz1 hk1 hS => ?_)
  obtain ⟨hr9, hk9⟩ := hw
  subst hr9
  rw [ht] at hB
  have hPm := ap_keep (ap.both (a13 _ _ _ _ _ _ _ _ _ _ _ _ _ _ _ _ _ _ _ _) (a23 _ _ _ _ _ _ _ _ _ _ _ _ _ _)) hPm hk1
  have hPg := ap_keep (ap.both (a14 _ _ _ _ _ _ _ _) (a24 _ _)) hPg hk1
  have hle9 := tAdd_le rn
  rcases Nat.eq_zero_or_pos k with hk0 | hk0
  · subst hk0
    have hB : va_P E.1 vwCl ((dC E ad S zs (rn + 1) dy bn cn tn) ++ [oL E o0 (vp_updL f0 0 (Int32.toInt64 (nI rn)))]) H1 := hB
    have hPd := fr_l hB
    have hPo := fr_r hB
    clear hPw hDw hFc
    generalize H1 = H at hPd hPo hPm hPg hS ⊢
    refine lv_istore (lv' := [(6, .int 0), (0, .ref b), (1, .ref (ad 0)), (2, .ref (mm 0)), (3, .ref o0), (4, .ref d0), (5, .int (nI i))]) hx hb dL_law_165 hl (by decide) rfl (fun ls hl => ?_)
    refine lv_aload_n hx hb dL_law_167 rfl (lv_at hl 3 rfl) ?_
    have hDc : va_D (fun q : Nat => s.heap.size ≤ q) (mC E mm th dy rn cn tn NU WE AT zs BU AV LS LT) := d3 _ _ _ _ _ _ _ _ _ _ _ _ _
    have hFc := fr_free hDc hS hA
    refine va_calli (va_runV (As := []) (rest := []) ⟨hx, hb, hml, hown, hts⟩ (kX5_addRegion l E (mm 0) (mm 1) (mm 2) (mm 3) (mm 4) (mm 5) (mm 6) (mm 7) (mm 8) th dy rn cn tn NU WE AT zs BU AV LS LT H.size (by first | omega | assumption | exact hz) (by first | omega | assumption | exact hz)) (cwV 0 hts gL_law_X5_addRegion rfl rfl rfl (by decide +kernel) ⟨Nat.le_of_ble_eq_true rfl, Nat.le_of_ble_eq_true rfl⟩) ⟨fb_W, va_recv hE.1 hPm (ci := 5) (q0 := 0) rfl rfl, fun U hU hW => ⟨rfl, by rw [hU], by rw [hU]; exact hPm, hDc.weaken (fun _ _ _ _ => trivial), hE.warm hW⟩⟩ rfl rfl hl.1 rfl (lv_room (Nat.le_of_ble_eq_true rfl)) dL_law_168 ⟨by show _ ≤ 601024; omega, by show _ ≤ 7293034; omega⟩) hS (fun q _ h => hFc q h) hFc (fun r168 u t H1 locs ht hvm hw hB hz1 hk1 hS => ?_)
    rw [ht] at hB
    have hPd := ap_keep (a13 _ _ _ _ _ _ _ _ _ _ _ _ _ _ _ _ _ _ _ _).comm hPd hk1
    have hPo := ap_keep (a23 _ _ _ _ _ _ _ _ _ _ _ _ _ _).comm hPo hk1
    have hPg := ap_keep (a34 _ _ _ _ _ _ _ _ _ _ _ _ _ _) hPg hk1
    obtain ⟨hk5, hw⟩ := hw
    have e5 : u = 0 := hk5.trans hk9.symm
    subst e5
    have hw := hw rfl
    have hPm : va_P E.1 vwCl (mC E mm 0 dy (rn + 1) cn tn NU WE AT zs BU AV LS LT) H1 := hB
    clear hDc hFc
    generalize H1 = H at hPd hPo hPm hPg hS ⊢
    subst hw
    have hR := op_addRegion hR hk9
    refine lv_istore (lv' := [(7, .int (nI rn)), (6, .int 0), (0, .ref b), (1, .ref (ad 0)), (2, .ref (mm 0)), (3, .ref o0), (4, .ref d0), (5, .int (nI i))]) hx hb dL_law_171 hl (by decide) rfl (fun ls hl => ?_)
    refine lv_aload_n hx hb dL_law_173 rfl (lv_at hl 4 rfl) ?_
    have hPt : va_P E.1 vwCl [(mm 0, .inr (5, [.int 0, .int (nI dy), .int (nI (rn + 1)), .ref (mm 1), .ref (mm 2), .ref (mm 3), .ref (mm 4), .ref (mm 5), .int (nI cn), .ref (mm 6), .int (nI tn), .ref (mm 7), .ref (mm 8)]))] H := hPm.sub [0] rfl
    refine va_calli (va_runV (As := []) (rest := []) ⟨hx, hb, hml, hown, hts⟩ (kX5_thrown l E (mm 0) (mm 1) (mm 2) (mm 3) (mm 4) (mm 5) (mm 6) (mm 7) (mm 8) 0 dy (rn + 1) cn tn ) (cwV 0 hts gL_law_X5_thrown rfl rfl rfl (by decide +kernel) ⟨Nat.le_of_ble_eq_true rfl, Nat.le_of_ble_eq_true rfl⟩) ⟨fb_R, va_recv hE.1 hPm (ci := 5) (q0 := 0) rfl rfl, fun U hU hW => ⟨rfl, by rw [hU]; exact hPt, hE.warm hW⟩⟩ rfl rfl hl.1 rfl (lv_room (Nat.le_of_ble_eq_true rfl)) dL_law_174 ⟨by show _ ≤ 601024; omega, by show _ ≤ 7293034; omega⟩) hS (fun q _ h => h.elim) (fun q h => h.elim) (fun r174 u t H1 locs ht hvm hw hB hz1 hk1 hS => ?_)
    have hPd := hPd.ro hk1
    have hPo := hPo.ro hk1
    have hPm := hPm.ro hk1
    have hPg := hPg.ro hk1
    generalize H1 = H at hPd hPo hPm hPg hS ⊢
    subst hw
    refine lv_iload hx hb dL_law_177 (lv_at hl 1 rfl) ?_
    refine mz_eqN hx hb 0 0 (tgt := 184) dL_law_179 (by decide) (by omega) (by omega) (fun _ => ?_) (fun c9 => absurd rfl c9)
    refine lv_iload hx hb dL_law_184 (lv_at hl 1 rfl) ?_
    refine lv_if_ne (tgt := 201) hx hb dL_law_186 (by decide) (fun c9 => absurd rfl c9) (fun _ => ?_)
    refine lv_aload_n hx hb dL_law_189 rfl (lv_at hl 5 rfl) ?_
    refine lv_iconst (v := 0) hx hb dL_law_190 (by decide) ?_
    refine la_lld hx hb hE hPo dL_law_191 ?_
    refine lv_iload hx hb dL_law_192 (lv_at hl 0 rfl) ?_
    refine lv_i2l hx hb dL_law_194 rfl ?_
    refine la_eqL hx hb (rfl) (tgt := 201) dL_law_195 dL_law_196 (by decide) ?_
    refine lv_goto (tgt := 1642) hx hb dL_law_201 (by decide) ?_
    refine W.widen (k := cl + 740) (n := sl + 3700) (by omega) (by omega) ?_
    exact K _ _ _ ⟨_, _, _, _, _, _, _, _, _, _, _, _, _, _, _, _, _, hR, hPd, hPo, hPm, hPg⟩ hS (lv_sub hl [2, 3, 4, 5, 6, 7] rfl)
  · obtain ⟨k, rfl⟩ : ∃ k9, k = k9 + 1 := ⟨k - 1, by omega⟩
    have hB : va_P E.1 vwCl ((dC E ad S zs rn dy bn cn tn) ++ [oL E o0 f0]) H1 := hB
    have hPd := fr_l hB
    have hPo := fr_r hB
    clear hPw hDw hFc
    generalize H1 = H at hPd hPo hPm hPg hS ⊢
    refine lv_istore (lv' := [(6, .int (nI (k + 1))), (0, .ref b), (1, .ref (ad 0)), (2, .ref (mm 0)), (3, .ref o0), (4, .ref d0), (5, .int (nI i))]) hx hb dL_law_165 hl (by decide) rfl (fun ls hl => ?_)
    refine lv_aload_n hx hb dL_law_167 rfl (lv_at hl 3 rfl) ?_
    have hDc : va_D (fun q : Nat => s.heap.size ≤ q) (mC E mm th dy rn cn tn NU WE AT zs BU AV LS LT) := d3 _ _ _ _ _ _ _ _ _ _ _ _ _
    have hFc := fr_free hDc hS hA
    refine va_calli (va_runV (As := []) (rest := []) ⟨hx, hb, hml, hown, hts⟩ (kX5_addRegion l E (mm 0) (mm 1) (mm 2) (mm 3) (mm 4) (mm 5) (mm 6) (mm 7) (mm 8) th dy rn cn tn NU WE AT zs BU AV LS LT H.size (by first | omega | assumption | exact hz) (by first | omega | assumption | exact hz)) (cwV 0 hts gL_law_X5_addRegion rfl rfl rfl (by decide +kernel) ⟨Nat.le_of_ble_eq_true rfl, Nat.le_of_ble_eq_true rfl⟩) ⟨fb_W, va_recv hE.1 hPm (ci := 5) (q0 := 0) rfl rfl, fun U hU hW => ⟨rfl, by rw [hU], by rw [hU]; exact hPm, hDc.weaken (fun _ _ _ _ => trivial), hE.warm hW⟩⟩ rfl rfl hl.1 rfl (lv_room (Nat.le_of_ble_eq_true rfl)) dL_law_168 ⟨by show _ ≤ 601024; omega, by show _ ≤ 7293034; omega⟩) hS (fun q _ h => hFc q h) hFc (fun r168 u t H1 locs ht hvm hw hB hz1 hk1 hS => ?_)
    rw [ht] at hB
    have hPd := ap_keep (a13 _ _ _ _ _ _ _ _ _ _ _ _ _ _ _ _ _ _ _ _).comm hPd hk1
    have hPo := ap_keep (a23 _ _ _ _ _ _ _ _ _ _ _ _ _ _).comm hPo hk1
    have hPg := ap_keep (a34 _ _ _ _ _ _ _ _ _ _ _ _ _ _) hPg hk1
    obtain ⟨hk5, hw⟩ := hw
    have e5 : u = k + 1 := hk5.trans hk9.symm
    subst e5
    have hPm : va_P E.1 vwCl (mC E mm (nI (k + 1)) dy rn cn tn NU WE AT zs BU AV LS LT) H1 := hB
    clear hDc hFc
    generalize H1 = H at hPd hPo hPm hPg hS ⊢
    refine lv_istore (lv' := [(7, .int r168), (6, .int (nI (k + 1))), (0, .ref b), (1, .ref (ad 0)), (2, .ref (mm 0)), (3, .ref o0), (4, .ref d0), (5, .int (nI i))]) hx hb dL_law_171 hl (by decide) rfl (fun ls hl => ?_)
    refine lv_aload_n hx hb dL_law_173 rfl (lv_at hl 4 rfl) ?_
    have hPt : va_P E.1 vwCl [(mm 0, .inr (5, [.int (nI (k + 1)), .int (nI dy), .int (nI rn), .ref (mm 1), .ref (mm 2), .ref (mm 3), .ref (mm 4), .ref (mm 5), .int (nI cn), .ref (mm 6), .int (nI tn), .ref (mm 7), .ref (mm 8)]))] H := hPm.sub [0] rfl
    refine va_calli (va_runV (As := []) (rest := []) ⟨hx, hb, hml, hown, hts⟩ (kX5_thrown l E (mm 0) (mm 1) (mm 2) (mm 3) (mm 4) (mm 5) (mm 6) (mm 7) (mm 8) (nI (k + 1)) dy rn cn tn ) (cwV 0 hts gL_law_X5_thrown rfl rfl rfl (by decide +kernel) ⟨Nat.le_of_ble_eq_true rfl, Nat.le_of_ble_eq_true rfl⟩) ⟨fb_R, va_recv hE.1 hPm (ci := 5) (q0 := 0) rfl rfl, fun U hU hW => ⟨rfl, by rw [hU]; exact hPt, hE.warm hW⟩⟩ rfl rfl hl.1 rfl (lv_room (Nat.le_of_ble_eq_true rfl)) dL_law_174 ⟨by show _ ≤ 601024; omega, by show _ ≤ 7293034; omega⟩) hS (fun q _ h => h.elim) (fun q h => h.elim) (fun r174 u t H1 locs ht hvm hw hB hz1 hk1 hS => ?_)
    have hPd := hPd.ro hk1
    have hPo := hPo.ro hk1
    have hPm := hPm.ro hk1
    have hPg := hPg.ro hk1
    generalize H1 = H at hPd hPo hPm hPg hS ⊢
    subst hw
    refine lv_iload hx hb dL_law_177 (lv_at hl 1 rfl) ?_
    refine mz_eqN hx hb (k + 1) (k + 1) (tgt := 184) dL_law_179 (by decide) (by omega) (by omega) (fun _ => ?_) (fun c9 => absurd rfl c9)
    refine lv_iload hx hb dL_law_184 (lv_at hl 1 rfl) ?_
    refine mz_ifneN hx hb (k + 1) (tgt := 201) dL_law_186 (by decide) (by omega) (fun _ => ?_) (fun c9 => absurd c9 (by omega))
    refine lv_goto (tgt := 1642) hx hb dL_law_201 (by decide) ?_
    refine W.widen (k := cl + 740) (n := sl + 3700) (by omega) (by omega) ?_
    exact K _ _ _ ⟨_, _, _, _, _, _, _, _, _, _, _, _, _, _, _, _, _, hR, hPd, hPo, hPm, hPg⟩ hS (lv_sub hl [2, 3, 4, 5, 6, 7] rfl)
set_option maxHeartbeats 4000000 in
set_option maxRecDepth 100000 in
theorem arm_weather {p : Program} {e : Env} {s : State} {m : MethodId} {below : List Frame} {meth : Method} {c : Code} (l : Launch) (hlt : l.stackTraces = false) {b L : Nat} {xs : Nat → Int32} (hL : L ≤ 3072) (C0 : lw_At p s m meth c b L xs) {E : ev_T} {ad mm : Nat → Nat} {o0 d0 : Nat} (hE : ev_U E s) (hU9 : ex_U (fun q : Nat => s.heap.size ≤ q) s s.heap) (hLD : LD E ad mm o0 d0 (fun q : Nat => s.heap.size ≤ q)) {i cl sl : Nat} (hi : i + 6 ≤ L) (hcl : cl + 740 ≤ 601024) (hsl : sl + 3700 ≤ 7293034)
    (K : ∀ (H : Heap) (locs : List Loc) (ls : Array Slot), LX E ad mm o0 d0 H → va_S (fun q : Nat => s.heap.size ≤ q) s.heap H locs → lv_has ls 9 [(0, .ref b), (1, .ref (ad 0)), (2, .ref (mm 0)), (3, .ref o0), (4, .ref d0), (5, .int (nI i))] → W p l e room_1 s m #[Value.ref b] below meth c H locs (cl + 740) (sl + 3700) (lw_Z below #[Value.ref b] s) (F0 m 1642 ls []))
    {H : Heap} {locs : List Loc} {ls : Array Slot} (hX0 : LX E ad mm o0 d0 H) (hS : va_S (fun q : Nat => s.heap.size ≤ q) s.heap H locs) (hl : lv_has ls 9 [(0, .ref b), (1, .ref (ad 0)), (2, .ref (mm 0)), (3, .ref o0), (4, .ref d0), (5, .int (nI i))]) : W p l e room_1 s m #[Value.ref b] below meth c H locs cl sl (lw_Z below #[Value.ref b] s) (F0 m 204 ls []) := by
  obtain ⟨hx, hb, hr, hml, hown, hts0, hX, hbl, hlocks, hgv⟩ := id C0
  have hts : ∀ w ∈ wsL_law, w.before #[Value.ref b] s = true := fun w h => hts0 w (wsL_law_in w h)
  have hown : s.vm.findClass RL = some m.cls := hown
  obtain ⟨S, zs, rn, dy, bn, cn, tn, th, NU, WE, AT, BU, AV, LS, LT, f0, g0, hR, hPd, hPo, hPm, hPg⟩ := hX0
  obtain ⟨d1, d2, d3, d4, a12, a13, a14, a23, a24, a34⟩ := hLD
  have hA : ∀ q : Nat, s.heap.size ≤ q → (fun q : Nat => s.heap.size ≤ q) q := fun _ h => h
  have hbA : ¬ (fun q : Nat => s.heap.size ≤ q) b := Nat.not_le.mpr hbl
  obtain ⟨h6, h60, h200, h20⟩ := hR.1
  have hz := hR.hz
  refine lv_aload_n hx hb dL_law_204 rfl (lv_at hl 1 rfl) ?_
  refine lv_aload_n hx hb dL_law_205 rfl (lv_at hl 0 rfl) ?_
  refine lv_iload hx hb dL_law_206 (lv_at hl 5 rfl) ?_
  refine lv_iconst (v := 1) hx hb dL_law_208 (by decide) ?_
  refine mz_addN hx hb i 1 dL_law_209 ?_
  refine la_sld hx hb hX hbl hbA hS (i + 1) (by omega) hL dL_law_210 ?_
  refine lv_aload_n hx hb dL_law_211 rfl (lv_at hl 0 rfl) ?_
  refine lv_iload hx hb dL_law_212 (lv_at hl 5 rfl) ?_
  refine lv_iconst (v := 2) hx hb dL_law_214 (by decide) ?_
  refine mz_addN hx hb i 2 dL_law_215 ?_
  refine la_sld hx hb hX hbl hbA hS (i + 2) (by omega) hL dL_law_216 ?_
  refine lv_aload_n hx hb dL_law_217 rfl (lv_at hl 0 rfl) ?_
  refine lv_iload hx hb dL_law_218 (lv_at hl 5 rfl) ?_
  refine lv_iconst (v := 3) hx hb dL_law_220 (by decide) ?_
  refine mz_addN hx hb i 3 dL_law_221 ?_
  refine la_sld hx hb hX hbl hbA hS (i + 3) (by omega) hL dL_law_222 ?_
  refine lv_aload_n hx hb dL_law_223 rfl (lv_at hl 0 rfl) ?_
  refine lv_iload hx hb dL_law_224 (lv_at hl 5 rfl) ?_
  refine lv_iconst (v := 4) hx hb dL_law_226 (by decide) ?_
  refine mz_addN hx hb i 4 dL_law_227 ?_
  refine la_sld hx hb hX hbl hbA hS (i + 4) (by omega) hL dL_law_228 ?_
  refine lv_aload_n hx hb dL_law_229 rfl (lv_at hl 0 rfl) ?_
  refine lv_iload hx hb dL_law_230 (lv_at hl 5 rfl) ?_
  refine lv_iconst (v := 5) hx hb dL_law_232 (by decide) ?_
  refine mz_addN hx hb i 5 dL_law_233 ?_
  refine la_sld hx hb hX hbl hbA hS (i + 5) (by omega) hL dL_law_234 ?_
  refine lv_aload_n hx hb dL_law_235 rfl (lv_at hl 3 rfl) ?_
  have hPw : va_P E.1 vwCl ((dC E ad S zs rn dy bn cn tn) ++ [oL E o0 f0]) H := hPd.app hPo
  have hDw : va_D (fun q : Nat => s.heap.size ≤ q) ((dC E ad S zs rn dy bn cn tn) ++ [oL E o0 f0]) := (d1 _ _ _ _ _ _ _).app (d2 _) (a12 _ _ _ _ _ _ _ _)
  have hFc := fr_free hDw hS hA
  refine va_calli (vx_runSW (As := [.ref (ad 0), .int (xs (i + 1)), .int (xs (i + 2)), .int (xs (i + 3)), .int (xs (i + 4)), .int (xs (i + 5)), .ref o0]) (rest := []) ⟨hx, hb, hml, hown, hts⟩ (kL_weather l hlt E ad S zs rn dy bn cn tn (xs (i + 1)) (xs (i + 2)) (xs (i + 3)) (xs (i + 4)) (xs (i + 5)) o0 f0 H.size (by first | omega | assumption | exact h60 | exact h6 | exact h20 | exact h200) (by first | omega | assumption | exact h60 | exact h6 | exact h20 | exact h200)) (vx_cwSW 7 hts gL_law_L_weather rfl rfl rfl (by decide +kernel) ⟨Nat.le_of_ble_eq_true rfl, Nat.le_of_ble_eq_true rfl⟩) ⟨fb_Y, fun U hU hW => ⟨rfl, by rw [hU], by rw [hU]; exact hPw, hDw.weaken (fun _ _ _ _ => trivial), hE.warm hW, hU9.to hS hFc hU hW⟩⟩ rfl rfl hl.1 rfl (lv_room (Nat.le_of_ble_eq_true rfl)) dL_law_236 ⟨by show _ ≤ 601024; omega, by show _ ≤ 7293034; omega⟩) hS (fun q _ h => hFc q h) hFc (fun r9 k t H1 locs ht hvm hw hB hz1 hk1 hS => ?_)
  obtain ⟨hr9, hk9⟩ := hw
  subst hr9
  rw [ht] at hB
  have hPm := ap_keep (ap.both (a13 _ _ _ _ _ _ _ _ _ _ _ _ _ _ _ _ _ _ _ _) (a23 _ _ _ _ _ _ _ _ _ _ _ _ _ _)) hPm hk1
  have hPg := ap_keep (ap.both (a14 _ _ _ _ _ _ _ _) (a24 _ _)) hPg hk1
  have hle9 := tWea_le (xs (i + 1)) (xs (i + 2)) (xs (i + 3)) (xs (i + 4)) (xs (i + 5)) rn
  rcases Nat.eq_zero_or_pos k with hk0 | hk0
  · subst hk0
    have hB : va_P E.1 vwCl ((dC E ad (va_up S (2 + 2 * (Int32.toNatClampNeg (xs (i + 1)))) (fF 1 (xs (i + 2)) (xs (i + 3)) (xs (i + 4)) (xs (i + 5)))) zs rn dy bn cn tn) ++ [oL E o0 (vp_updL f0 0 (if (if (S (2 + 2 * (Int32.toNatClampNeg (xs (i + 1))))) 1 = 0 then 1 else 0 : Int32) = 0 then 0 else 1))]) H1 := hB
    have hPd := fr_l hB
    have hPo := fr_r hB
    clear hPw hDw hFc
    generalize H1 = H at hPd hPo hPm hPg hS ⊢
    refine lv_istore (lv' := [(6, .int 0), (0, .ref b), (1, .ref (ad 0)), (2, .ref (mm 0)), (3, .ref o0), (4, .ref d0), (5, .int (nI i))]) hx hb dL_law_239 hl (by decide) rfl (fun ls hl => ?_)
    refine lv_aload_n hx hb dL_law_241 rfl (lv_at hl 3 rfl) ?_
    refine lv_aload_n hx hb dL_law_242 rfl (lv_at hl 1 rfl) ?_
    refine lv_iload hx hb dL_law_243 (lv_at hl 6 rfl) ?_
    refine lv_iconst (v := 1) hx hb dL_law_245 (by decide) ?_
    refine mz_addN hx hb i 1 dL_law_246 ?_
    refine la_sld hx hb hX hbl hbA hS (i + 1) (by omega) hL dL_law_247 ?_
    refine lv_aload_n hx hb dL_law_248 rfl (lv_at hl 1 rfl) ?_
    refine lv_iload hx hb dL_law_249 (lv_at hl 6 rfl) ?_
    refine lv_iconst (v := 2) hx hb dL_law_251 (by decide) ?_
    refine mz_addN hx hb i 2 dL_law_252 ?_
    refine la_sld hx hb hX hbl hbA hS (i + 2) (by omega) hL dL_law_253 ?_
    refine lv_aload_n hx hb dL_law_254 rfl (lv_at hl 1 rfl) ?_
    refine lv_iload hx hb dL_law_255 (lv_at hl 6 rfl) ?_
    refine lv_iconst (v := 3) hx hb dL_law_257 (by decide) ?_
    refine mz_addN hx hb i 3 dL_law_258 ?_
    refine la_sld hx hb hX hbl hbA hS (i + 3) (by omega) hL dL_law_259 ?_
    refine lv_aload_n hx hb dL_law_260 rfl (lv_at hl 1 rfl) ?_
    refine lv_iload hx hb dL_law_261 (lv_at hl 6 rfl) ?_
    refine lv_iconst (v := 4) hx hb dL_law_263 (by decide) ?_
    refine mz_addN hx hb i 4 dL_law_264 ?_
    refine la_sld hx hb hX hbl hbA hS (i + 4) (by omega) hL dL_law_265 ?_
    refine lv_aload_n hx hb dL_law_266 rfl (lv_at hl 1 rfl) ?_
    refine lv_iload hx hb dL_law_267 (lv_at hl 6 rfl) ?_
    refine lv_iconst (v := 5) hx hb dL_law_269 (by decide) ?_
    refine mz_addN hx hb i 5 dL_law_270 ?_
    refine la_sld hx hb hX hbl hbA hS (i + 5) (by omega) hL dL_law_271 ?_
    have hDc : va_D (fun q : Nat => s.heap.size ≤ q) (mC E mm th dy rn cn tn NU WE AT zs BU AV LS LT) := d3 _ _ _ _ _ _ _ _ _ _ _ _ _
    have hFc := fr_free hDc hS hA
    refine va_calli (va_runV (As := [.int (xs (i + 1)), .int (xs (i + 2)), .int (xs (i + 3)), .int (xs (i + 4)), .int (xs (i + 5))]) (rest := []) ⟨hx, hb, hml, hown, hts⟩ (kX5_weather l E (mm 0) (mm 1) (mm 2) (mm 3) (mm 4) (mm 5) (mm 6) (mm 7) (mm 8) th dy rn cn tn NU WE AT zs BU AV LS LT (xs (i + 1)) (xs (i + 2)) (xs (i + 3)) (xs (i + 4)) (xs (i + 5)) H.size (by first | omega | assumption | exact hz) (by first | omega | assumption | exact hz)) (cwV 5 hts gL_law_X5_weather rfl rfl rfl (by decide +kernel) ⟨Nat.le_of_ble_eq_true rfl, Nat.le_of_ble_eq_true rfl⟩) ⟨fb_W, va_recv hE.1 hPm (ci := 5) (q0 := 0) rfl rfl, fun U hU hW => ⟨rfl, by rw [hU], by rw [hU]; exact hPm, hDc.weaken (fun _ _ _ _ => trivial), hE.warm hW⟩⟩ rfl rfl hl.1 rfl (lv_room (Nat.le_of_ble_eq_true rfl)) dL_law_272 ⟨by show _ ≤ 601024; omega, by show _ ≤ 7293034; omega⟩) hS (fun q _ h => hFc q h) hFc (fun r272 u t H1 locs ht hvm hw hB hz1 hk1 hS => ?_)
    rw [ht] at hB
    have hPd := ap_keep (a13 _ _ _ _ _ _ _ _ _ _ _ _ _ _ _ _ _ _ _ _).comm hPd hk1
    have hPo := ap_keep (a23 _ _ _ _ _ _ _ _ _ _ _ _ _ _).comm hPo hk1
    have hPg := ap_keep (a34 _ _ _ _ _ _ _ _ _ _ _ _ _ _) hPg hk1
    obtain ⟨hk5, hw⟩ := hw
    have e5 : u = 0 := hk5.trans hk9.symm
    subst e5
    have hw := hw rfl
    have hPm : va_P E.1 vwCl (mC E mm 0 dy rn cn tn NU (upd (upd (upd (upd WE (4 * (Int32.toNatClampNeg (xs (i + 1)))) (xs (i + 2))) (4 * (Int32.toNatClampNeg (xs (i + 1))) + 1) (xs (i + 3))) (4 * (Int32.toNatClampNeg (xs (i + 1))) + 2) (xs (i + 4))) (4 * (Int32.toNatClampNeg (xs (i + 1))) + 3) (xs (i + 5))) (upd AT (Int32.toNatClampNeg (xs (i + 1))) 1) zs BU AV LS LT) H1 := hB
    clear hDc hFc
    generalize H1 = H at hPd hPo hPm hPg hS ⊢
    subst hw
    obtain ⟨heq, hR⟩ := op_weather hR (xs (i + 1)) (xs (i + 2)) (xs (i + 3)) (xs (i + 4)) (xs (i + 5)) hk9
    refine lv_istore (lv' := [(7, .int (if AT (Int32.toNatClampNeg (xs (i + 1))) = 0 then 1 else 0)), (6, .int 0), (0, .ref b), (1, .ref (ad 0)), (2, .ref (mm 0)), (3, .ref o0), (4, .ref d0), (5, .int (nI i))]) hx hb dL_law_275 hl (by decide) rfl (fun ls hl => ?_)
    refine lv_aload_n hx hb dL_law_277 rfl (lv_at hl 4 rfl) ?_
    have hPt : va_P E.1 vwCl [(mm 0, .inr (5, [.int 0, .int (nI dy), .int (nI rn), .ref (mm 1), .ref (mm 2), .ref (mm 3), .ref (mm 4), .ref (mm 5), .int (nI cn), .ref (mm 6), .int (nI tn), .ref (mm 7), .ref (mm 8)]))] H := hPm.sub [0] rfl
    refine va_calli (va_runV (As := []) (rest := []) ⟨hx, hb, hml, hown, hts⟩ (kX5_thrown l E (mm 0) (mm 1) (mm 2) (mm 3) (mm 4) (mm 5) (mm 6) (mm 7) (mm 8) 0 dy rn cn tn ) (cwV 0 hts gL_law_X5_thrown rfl rfl rfl (by decide +kernel) ⟨Nat.le_of_ble_eq_true rfl, Nat.le_of_ble_eq_true rfl⟩) ⟨fb_R, va_recv hE.1 hPm (ci := 5) (q0 := 0) rfl rfl, fun U hU hW => ⟨rfl, by rw [hU]; exact hPt, hE.warm hW⟩⟩ rfl rfl hl.1 rfl (lv_room (Nat.le_of_ble_eq_true rfl)) dL_law_278 ⟨by show _ ≤ 601024; omega, by show _ ≤ 7293034; omega⟩) hS (fun q _ h => h.elim) (fun q h => h.elim) (fun r278 u t H1 locs ht hvm hw hB hz1 hk1 hS => ?_)
    have hPd := hPd.ro hk1
    have hPo := hPo.ro hk1
    have hPm := hPm.ro hk1
    have hPg := hPg.ro hk1
    generalize H1 = H at hPd hPo hPm hPg hS ⊢
    subst hw
    refine lv_iload hx hb dL_law_281 (lv_at hl 1 rfl) ?_
    refine mz_eqN hx hb 0 0 (tgt := 288) dL_law_283 (by decide) (by omega) (by omega) (fun _ => ?_) (fun c9 => absurd rfl c9)
    refine lv_iload hx hb dL_law_288 (lv_at hl 1 rfl) ?_
    refine lv_if_ne (tgt := 312) hx hb dL_law_290 (by decide) (fun c9 => absurd rfl c9) (fun _ => ?_)
    refine lv_aload_n hx hb dL_law_293 rfl (lv_at hl 5 rfl) ?_
    refine lv_iconst (v := 0) hx hb dL_law_294 (by decide) ?_
    refine la_lld hx hb hE hPo dL_law_295 ?_
    refine lv_iload hx hb dL_law_296 (lv_at hl 0 rfl) ?_
    refine lv_if_eq (tgt := 305) hx hb dL_law_298 (by decide) (fun cc0 => ?_) (fun cc0 => ?_)
    · refine lv_lconst (v := 0) hx hb dL_law_305 (by decide) ?_
      refine la_eqL hx hb (by show (if (_ : Int32) = 0 then (0 : Int64) else 1) = _; rw [heq]; exact if_pos cc0) (tgt := 312) dL_law_306 dL_law_307 (by decide) ?_
      refine lv_goto (tgt := 1642) hx hb dL_law_312 (by decide) ?_
      refine W.widen (k := cl + 740) (n := sl + 3700) (by omega) (by omega) ?_
      exact K _ _ _ ⟨_, _, _, _, _, _, _, _, _, _, _, _, _, _, _, _, _, hR, hPd, hPo, hPm, hPg⟩ hS (lv_sub hl [2, 3, 4, 5, 6, 7] rfl)
    · refine lv_lconst (v := 1) hx hb dL_law_301 (by decide) ?_
      refine lv_goto (tgt := 306) hx hb dL_law_302 (by decide) ?_
      refine la_eqL hx hb (by show (if (_ : Int32) = 0 then (0 : Int64) else 1) = _; rw [heq]; exact if_neg cc0) (tgt := 312) dL_law_306 dL_law_307 (by decide) ?_
      refine lv_goto (tgt := 1642) hx hb dL_law_312 (by decide) ?_
      refine W.widen (k := cl + 740) (n := sl + 3700) (by omega) (by omega) ?_
      exact K _ _ _ ⟨_, _, _, _, _, _, _, _, _, _, _, _, _, _, _, _, _, hR, hPd, hPo, hPm, hPg⟩ hS (lv_sub hl [2, 3, 4, 5, 6, 7] rfl)
  · obtain ⟨k, rfl⟩ : ∃ k9, k = k9 + 1 := ⟨k - 1, by omega⟩
    have hB : va_P E.1 vwCl ((dC E ad S zs rn dy bn cn tn) ++ [oL E o0 f0]) H1 := hB
    have hPd := fr_l hB
    have hPo := fr_r hB
    clear hPw hDw hFc
    generalize H1 = H at hPd hPo hPm hPg hS ⊢
    refine lv_istore (lv' := [(6, .int (nI (k + 1))), (0, .ref b), (1, .ref (ad 0)), (2, .ref (mm 0)), (3, .ref o0), (4, .ref d0), (5, .int (nI i))]) hx hb dL_law_239 hl (by decide) rfl (fun ls hl => ?_)
    refine lv_aload_n hx hb dL_law_241 rfl (lv_at hl 3 rfl) ?_
    refine lv_aload_n hx hb dL_law_242 rfl (lv_at hl 1 rfl) ?_
    refine lv_iload hx hb dL_law_243 (lv_at hl 6 rfl) ?_
    refine lv_iconst (v := 1) hx hb dL_law_245 (by decide) ?_
    refine mz_addN hx hb i 1 dL_law_246 ?_
    refine la_sld hx hb hX hbl hbA hS (i + 1) (by omega) hL dL_law_247 ?_
    refine lv_aload_n hx hb dL_law_248 rfl (lv_at hl 1 rfl) ?_
    refine lv_iload hx hb dL_law_249 (lv_at hl 6 rfl) ?_
    refine lv_iconst (v := 2) hx hb dL_law_251 (by decide) ?_
    refine mz_addN hx hb i 2 dL_law_252 ?_
    refine la_sld hx hb hX hbl hbA hS (i + 2) (by omega) hL dL_law_253 ?_
    refine lv_aload_n hx hb dL_law_254 rfl (lv_at hl 1 rfl) ?_
    refine lv_iload hx hb dL_law_255 (lv_at hl 6 rfl) ?_
    refine lv_iconst (v := 3) hx hb dL_law_257 (by decide) ?_
    refine mz_addN hx hb i 3 dL_law_258 ?_
    refine la_sld hx hb hX hbl hbA hS (i + 3) (by omega) hL dL_law_259 ?_
    refine lv_aload_n hx hb dL_law_260 rfl (lv_at hl 1 rfl) ?_
    refine lv_iload hx hb dL_law_261 (lv_at hl 6 rfl) ?_
    refine lv_iconst (v := 4) hx hb dL_law_263 (by decide) ?_
    refine mz_addN hx hb i 4 dL_law_264 ?_
    refine la_sld hx hb hX hbl hbA hS (i + 4) (by omega) hL dL_law_265 ?_
    refine lv_aload_n hx hb dL_law_266 rfl (lv_at hl 1 rfl) ?_
    refine lv_iload hx hb dL_law_267 (lv_at hl 6 rfl) ?_
    refine lv_iconst (v := 5) hx hb dL_law_269 (by decide) ?_
    refine mz_addN hx hb i 5 dL_law_270 ?_
    refine la_sld hx hb hX hbl hbA hS (i + 5) (by omega) hL dL_law_271 ?_
    have hDc : va_D (fun q : Nat => s.heap.size ≤ q) (mC E mm th dy rn cn tn NU WE AT zs BU AV LS LT) := d3 _ _ _ _ _ _ _ _ _ _ _ _ _
    have hFc := fr_free hDc hS hA
    refine va_calli (va_runV (As := [.int (xs (i + 1)), .int (xs (i + 2)), .int (xs (i + 3)), .int (xs (i + 4)), .int (xs (i + 5))]) (rest := []) ⟨hx, hb, hml, hown, hts⟩ (kX5_weather l E (mm 0) (mm 1) (mm 2) (mm 3) (mm 4) (mm 5) (mm 6) (mm 7) (mm 8) th dy rn cn tn NU WE AT zs BU AV LS LT (xs (i + 1)) (xs (i + 2)) (xs (i + 3)) (xs (i + 4)) (xs (i + 5)) H.size (by first | omega | assumption | exact hz) (by first | omega | assumption | exact hz)) (cwV 5 hts gL_law_X5_weather rfl rfl rfl (by decide +kernel) ⟨Nat.le_of_ble_eq_true rfl, Nat.le_of_ble_eq_true rfl⟩) ⟨fb_W, va_recv hE.1 hPm (ci := 5) (q0 := 0) rfl rfl, fun U hU hW => ⟨rfl, by rw [hU], by rw [hU]; exact hPm, hDc.weaken (fun _ _ _ _ => trivial), hE.warm hW⟩⟩ rfl rfl hl.1 rfl (lv_room (Nat.le_of_ble_eq_true rfl)) dL_law_272 ⟨by show _ ≤ 601024; omega, by show _ ≤ 7293034; omega⟩) hS (fun q _ h => hFc q h) hFc (fun r272 u t H1 locs ht hvm hw hB hz1 hk1 hS => ?_)
    rw [ht] at hB
    have hPd := ap_keep (a13 _ _ _ _ _ _ _ _ _ _ _ _ _ _ _ _ _ _ _ _).comm hPd hk1
    have hPo := ap_keep (a23 _ _ _ _ _ _ _ _ _ _ _ _ _ _).comm hPo hk1
    have hPg := ap_keep (a34 _ _ _ _ _ _ _ _ _ _ _ _ _ _) hPg hk1
    obtain ⟨hk5, hw⟩ := hw
    have e5 : u = k + 1 := hk5.trans hk9.symm
    subst e5
    have hPm : va_P E.1 vwCl (mC E mm (nI (k + 1)) dy rn cn tn NU WE AT zs BU AV LS LT) H1 := hB
    clear hDc hFc
    generalize H1 = H at hPd hPo hPm hPg hS ⊢
    refine lv_istore (lv' := [(7, .int r272), (6, .int (nI (k + 1))), (0, .ref b), (1, .ref (ad 0)), (2, .ref (mm 0)), (3, .ref o0), (4, .ref d0), (5, .int (nI i))]) hx hb dL_law_275 hl (by decide) rfl (fun ls hl => ?_)
    refine lv_aload_n hx hb dL_law_277 rfl (lv_at hl 4 rfl) ?_
    have hPt : va_P E.1 vwCl [(mm 0, .inr (5, [.int (nI (k + 1)), .int (nI dy), .int (nI rn), .ref (mm 1), .ref (mm 2), .ref (mm 3), .ref (mm 4), .ref (mm 5), .int (nI cn), .ref (mm 6), .int (nI tn), .ref (mm 7), .ref (mm 8)]))] H := hPm.sub [0] rfl
    refine va_calli (va_runV (As := []) (rest := []) ⟨hx, hb, hml, hown, hts⟩ (kX5_thrown l E (mm 0) (mm 1) (mm 2) (mm 3) (mm 4) (mm 5) (mm 6) (mm 7) (mm 8) (nI (k + 1)) dy rn cn tn ) (cwV 0 hts gL_law_X5_thrown rfl rfl rfl (by decide +kernel) ⟨Nat.le_of_ble_eq_true rfl, Nat.le_of_ble_eq_true rfl⟩) ⟨fb_R, va_recv hE.1 hPm (ci := 5) (q0 := 0) rfl rfl, fun U hU hW => ⟨rfl, by rw [hU]; exact hPt, hE.warm hW⟩⟩ rfl rfl hl.1 rfl (lv_room (Nat.le_of_ble_eq_true rfl)) dL_law_278 ⟨by show _ ≤ 601024; omega, by show _ ≤ 7293034; omega⟩) hS (fun q _ h => h.elim) (fun q h => h.elim) (fun r278 u t H1 locs ht hvm hw hB hz1 hk1 hS => ?_)
    have hPd := hPd.ro hk1
    have hPo := hPo.ro hk1
    have hPm := hPm.ro hk1
    have hPg := hPg.ro hk1
    generalize H1 = H at hPd hPo hPm hPg hS ⊢
    subst hw
    refine lv_iload hx hb dL_law_281 (lv_at hl 1 rfl) ?_
    refine mz_eqN hx hb (k + 1) (k + 1) (tgt := 288) dL_law_283 (by decide) (by omega) (by omega) (fun _ => ?_) (fun c9 => absurd rfl c9)
    refine lv_iload hx hb dL_law_288 (lv_at hl 1 rfl) ?_
    refine mz_ifneN hx hb (k + 1) (tgt := 312) dL_law_290 (by decide) (by omega) (fun _ => ?_) (fun c9 => absurd c9 (by omega))
    refine lv_goto (tgt := 1642) hx hb dL_law_312 (by decide) ?_
    refine W.widen (k := cl + 740) (n := sl + 3700) (by omega) (by omega) ?_
    exact K _ _ _ ⟨_, _, _, _, _, _, _, _, _, _, _, _, _, _, _, _, _, hR, hPd, hPo, hPm, hPg⟩ hS (lv_sub hl [2, 3, 4, 5, 6, 7] rfl)
set_option maxHeartbeats 4000000 in
set_option maxRecDepth 100000 in
theorem arm_end {p : Program} {e : Env} {s : State} {m : MethodId} {below : List Frame} {meth : Method} {c : Code} (l : Launch) (hlt : l.stackTraces = false) {b L : Nat} {xs : Nat → Int32} (hL : L ≤ 3072) (C0 : lw_At p s m meth c b L xs) {E : ev_T} {ad mm : Nat → Nat} {o0 d0 : Nat} (hE : ev_U E s) (hU9 : ex_U (fun q : Nat => s.heap.size ≤ q) s s.heap) (hLD : LD E ad mm o0 d0 (fun q : Nat => s.heap.size ≤ q)) {i cl sl : Nat} (hi : i + 6 ≤ L) (hcl : cl + 740 ≤ 601024) (hsl : sl + 3700 ≤ 7293034)
    (K : ∀ (H : Heap) (locs : List Loc) (ls : Array Slot), LX E ad mm o0 d0 H → va_S (fun q : Nat => s.heap.size ≤ q) s.heap H locs → lv_has ls 9 [(0, .ref b), (1, .ref (ad 0)), (2, .ref (mm 0)), (3, .ref o0), (4, .ref d0), (5, .int (nI i))] → W p l e room_1 s m #[Value.ref b] below meth c H locs (cl + 740) (sl + 3700) (lw_Z below #[Value.ref b] s) (F0 m 1642 ls []))
    {H : Heap} {locs : List Loc} {ls : Array Slot} (hX0 : LX E ad mm o0 d0 H) (hS : va_S (fun q : Nat => s.heap.size ≤ q) s.heap H locs) (hl : lv_has ls 9 [(0, .ref b), (1, .ref (ad 0)), (2, .ref (mm 0)), (3, .ref o0), (4, .ref d0), (5, .int (nI i))]) : W p l e room_1 s m #[Value.ref b] below meth c H locs cl sl (lw_Z below #[Value.ref b] s) (F0 m 315 ls []) := by
  obtain ⟨hx, hb, hr, hml, hown, hts0, hX, hbl, hlocks, hgv⟩ := id C0
  have hts : ∀ w ∈ wsL_law, w.before #[Value.ref b] s = true := fun w h => hts0 w (wsL_law_in w h)
  have hown : s.vm.findClass RL = some m.cls := hown
  obtain ⟨S, zs, rn, dy, bn, cn, tn, th, NU, WE, AT, BU, AV, LS, LT, f0, g0, hR, hPd, hPo, hPm, hPg⟩ := hX0
  obtain ⟨d1, d2, d3, d4, a12, a13, a14, a23, a24, a34⟩ := hLD
  have hA : ∀ q : Nat, s.heap.size ≤ q → (fun q : Nat => s.heap.size ≤ q) q := fun _ h => h
  have hbA : ¬ (fun q : Nat => s.heap.size ≤ q) b := Nat.not_le.mpr hbl
  obtain ⟨h6, h60, h200, h20⟩ := hR.1
  have hz := hR.hz
  refine lv_aload_n hx hb dL_law_315 rfl (lv_at hl 1 rfl) ?_
  refine lv_aload_n hx hb dL_law_316 rfl (lv_at hl 3 rfl) ?_
  have hPw : va_P E.1 vwCl ((dC E ad S zs rn dy bn cn tn) ++ [oL E o0 f0]) H := hPd.app hPo
  have hDw : va_D (fun q : Nat => s.heap.size ≤ q) ((dC E ad S zs rn dy bn cn tn) ++ [oL E o0 f0]) := (d1 _ _ _ _ _ _ _).app (d2 _) (a12 _ _ _ _ _ _ _ _)
  have hFc := fr_free hDw hS hA
  refine va_calli (vx_runSW (As := [.ref (ad 0), .ref o0]) (rest := []) ⟨hx, hb, hml, hown, hts⟩ (kL_end l hlt E ad S zs rn dy bn cn tn  o0 f0 H.size (by first | omega | assumption | exact h60 | exact h6 | exact h20 | exact h200) (by first | omega | assumption | exact h60 | exact h6 | exact h20 | exact h200)) (vx_cwSW 2 hts gL_law_L_end rfl rfl rfl (by decide +kernel) ⟨Nat.le_of_ble_eq_true rfl, Nat.le_of_ble_eq_true rfl⟩) ⟨fb_Y, fun U hU hW => ⟨rfl, by rw [hU], by rw [hU]; exact hPw, hDw.weaken (fun _ _ _ _ => trivial), hE.warm hW, hU9.to hS hFc hU hW⟩⟩ rfl rfl hl.1 rfl (lv_room (Nat.le_of_ble_eq_true rfl)) dL_law_317 ⟨by show _ ≤ 601024; omega, by show _ ≤ 7293034; omega⟩) hS (fun q _ h => hFc q h) hFc (fun r9 k t H1 locs ht hvm hw hB hz1 hk1 hS => ?_)
  obtain ⟨hr9, hk9⟩ := hw
  subst hr9
  rw [ht] at hB
  have hPm := ap_keep (ap.both (a13 _ _ _ _ _ _ _ _ _ _ _ _ _ _ _ _ _ _ _ _) (a23 _ _ _ _ _ _ _ _ _ _ _ _ _ _)) hPm hk1
  have hPg := ap_keep (ap.both (a14 _ _ _ _ _ _ _ _) (a24 _ _)) hPg hk1
  have hle9 := tEnd_le dy
  rcases Nat.eq_zero_or_pos k with hk0 | hk0
  · subst hk0
    have hB : va_P E.1 vwCl ((dC E ad (dES S rn) zs rn (dy + 1) bn cn tn) ++ [oL E o0 (vp_updL f0 0 (Int32.toInt64 (nI (dy + 1))))]) H1 := hB
    have hPd := fr_l hB
    have hPo := fr_r hB
    clear hPw hDw hFc
    generalize H1 = H at hPd hPo hPm hPg hS ⊢
    refine lv_istore (lv' := [(6, .int 0), (0, .ref b), (1, .ref (ad 0)), (2, .ref (mm 0)), (3, .ref o0), (4, .ref d0), (5, .int (nI i))]) hx hb dL_law_320 hl (by decide) rfl (fun ls hl => ?_)
    refine lv_aload_n hx hb dL_law_322 rfl (lv_at hl 3 rfl) ?_
    have hDc : va_D (fun q : Nat => s.heap.size ≤ q) (mC E mm th dy rn cn tn NU WE AT zs BU AV LS LT) := d3 _ _ _ _ _ _ _ _ _ _ _ _ _
    have hFc := fr_free hDc hS hA
    refine va_calli (va_runV (As := []) (rest := []) ⟨hx, hb, hml, hown, hts⟩ (kX5_end l E (mm 0) (mm 1) (mm 2) (mm 3) (mm 4) (mm 5) (mm 6) (mm 7) (mm 8) th dy rn cn tn NU WE AT zs BU AV LS LT H.size (by first | omega | assumption | exact hz) (by first | omega | assumption | exact hz)) (cwV 0 hts gL_law_X5_end rfl rfl rfl (by decide +kernel) ⟨Nat.le_of_ble_eq_true rfl, Nat.le_of_ble_eq_true rfl⟩) ⟨fb_W, va_recv hE.1 hPm (ci := 5) (q0 := 0) rfl rfl, fun U hU hW => ⟨rfl, by rw [hU], by rw [hU]; exact hPm, hDc.weaken (fun _ _ _ _ => trivial), hE.warm hW⟩⟩ rfl rfl hl.1 rfl (lv_room (Nat.le_of_ble_eq_true rfl)) dL_law_323 ⟨by show _ ≤ 601024; omega, by show _ ≤ 7293034; omega⟩) hS (fun q _ h => hFc q h) hFc (fun r323 u t H1 locs ht hvm hw hB hz1 hk1 hS => ?_)
    rw [ht] at hB
    have hPd := ap_keep (a13 _ _ _ _ _ _ _ _ _ _ _ _ _ _ _ _ _ _ _ _).comm hPd hk1
    have hPo := ap_keep (a23 _ _ _ _ _ _ _ _ _ _ _ _ _ _).comm hPo hk1
    have hPg := ap_keep (a34 _ _ _ _ _ _ _ _ _ _ _ _ _ _) hPg hk1
    obtain ⟨hk5, hw⟩ := hw
    have e5 : u = 0 := hk5.trans hk9.symm
    subst e5
    have hw := hw rfl
    have hPm : va_P E.1 vwCl (mC E mm 0 (dy + 1) rn cn tn (enM NU WE rn) (caR WE 6) (caT AT 6) zs BU AV LS LT) H1 := hB
    clear hDc hFc
    generalize H1 = H at hPd hPo hPm hPg hS ⊢
    subst hw
    have hR := op_end hR hk9
    refine lv_istore (lv' := [(7, .int (nI (dy + 1))), (6, .int 0), (0, .ref b), (1, .ref (ad 0)), (2, .ref (mm 0)), (3, .ref o0), (4, .ref d0), (5, .int (nI i))]) hx hb dL_law_326 hl (by decide) rfl (fun ls hl => ?_)
    refine lv_aload_n hx hb dL_law_328 rfl (lv_at hl 4 rfl) ?_
    have hPt : va_P E.1 vwCl [(mm 0, .inr (5, [.int 0, .int (nI (dy + 1)), .int (nI rn), .ref (mm 1), .ref (mm 2), .ref (mm 3), .ref (mm 4), .ref (mm 5), .int (nI cn), .ref (mm 6), .int (nI tn), .ref (mm 7), .ref (mm 8)]))] H := hPm.sub [0] rfl
    refine va_calli (va_runV (As := []) (rest := []) ⟨hx, hb, hml, hown, hts⟩ (kX5_thrown l E (mm 0) (mm 1) (mm 2) (mm 3) (mm 4) (mm 5) (mm 6) (mm 7) (mm 8) 0 (dy + 1) rn cn tn ) (cwV 0 hts gL_law_X5_thrown rfl rfl rfl (by decide +kernel) ⟨Nat.le_of_ble_eq_true rfl, Nat.le_of_ble_eq_true rfl⟩) ⟨fb_R, va_recv hE.1 hPm (ci := 5) (q0 := 0) rfl rfl, fun U hU hW => ⟨rfl, by rw [hU]; exact hPt, hE.warm hW⟩⟩ rfl rfl hl.1 rfl (lv_room (Nat.le_of_ble_eq_true rfl)) dL_law_329 ⟨by show _ ≤ 601024; omega, by show _ ≤ 7293034; omega⟩) hS (fun q _ h => h.elim) (fun q h => h.elim) (fun r329 u t H1 locs ht hvm hw hB hz1 hk1 hS => ?_)
    have hPd := hPd.ro hk1
    have hPo := hPo.ro hk1
    have hPm := hPm.ro hk1
    have hPg := hPg.ro hk1
    generalize H1 = H at hPd hPo hPm hPg hS ⊢
    subst hw
    refine lv_iload hx hb dL_law_332 (lv_at hl 1 rfl) ?_
    refine mz_eqN hx hb 0 0 (tgt := 339) dL_law_334 (by decide) (by omega) (by omega) (fun _ => ?_) (fun c9 => absurd rfl c9)
    refine lv_iload hx hb dL_law_339 (lv_at hl 1 rfl) ?_
    refine lv_if_ne (tgt := 356) hx hb dL_law_341 (by decide) (fun c9 => absurd rfl c9) (fun _ => ?_)
    refine lv_aload_n hx hb dL_law_344 rfl (lv_at hl 5 rfl) ?_
    refine lv_iconst (v := 0) hx hb dL_law_345 (by decide) ?_
    refine la_lld hx hb hE hPo dL_law_346 ?_
    refine lv_iload hx hb dL_law_347 (lv_at hl 0 rfl) ?_
    refine lv_i2l hx hb dL_law_349 rfl ?_
    refine la_eqL hx hb (rfl) (tgt := 356) dL_law_350 dL_law_351 (by decide) ?_
    refine lv_goto (tgt := 1642) hx hb dL_law_356 (by decide) ?_
    refine W.widen (k := cl + 740) (n := sl + 3700) (by omega) (by omega) ?_
    exact K _ _ _ ⟨_, _, _, _, _, _, _, _, _, _, _, _, _, _, _, _, _, hR, hPd, hPo, hPm, hPg⟩ hS (lv_sub hl [2, 3, 4, 5, 6, 7] rfl)
  · obtain ⟨k, rfl⟩ : ∃ k9, k = k9 + 1 := ⟨k - 1, by omega⟩
    have hB : va_P E.1 vwCl ((dC E ad S zs rn dy bn cn tn) ++ [oL E o0 f0]) H1 := hB
    have hPd := fr_l hB
    have hPo := fr_r hB
    clear hPw hDw hFc
    generalize H1 = H at hPd hPo hPm hPg hS ⊢
    refine lv_istore (lv' := [(6, .int (nI (k + 1))), (0, .ref b), (1, .ref (ad 0)), (2, .ref (mm 0)), (3, .ref o0), (4, .ref d0), (5, .int (nI i))]) hx hb dL_law_320 hl (by decide) rfl (fun ls hl => ?_)
    refine lv_aload_n hx hb dL_law_322 rfl (lv_at hl 3 rfl) ?_
    have hDc : va_D (fun q : Nat => s.heap.size ≤ q) (mC E mm th dy rn cn tn NU WE AT zs BU AV LS LT) := d3 _ _ _ _ _ _ _ _ _ _ _ _ _
    have hFc := fr_free hDc hS hA
    refine va_calli (va_runV (As := []) (rest := []) ⟨hx, hb, hml, hown, hts⟩ (kX5_end l E (mm 0) (mm 1) (mm 2) (mm 3) (mm 4) (mm 5) (mm 6) (mm 7) (mm 8) th dy rn cn tn NU WE AT zs BU AV LS LT H.size (by first | omega | assumption | exact hz) (by first | omega | assumption | exact hz)) (cwV 0 hts gL_law_X5_end rfl rfl rfl (by decide +kernel) ⟨Nat.le_of_ble_eq_true rfl, Nat.le_of_ble_eq_true rfl⟩) ⟨fb_W, va_recv hE.1 hPm (ci := 5) (q0 := 0) rfl rfl, fun U hU hW => ⟨rfl, by rw [hU], by rw [hU]; exact hPm, hDc.weaken (fun _ _ _ _ => trivial), hE.warm hW⟩⟩ rfl rfl hl.1 rfl (lv_room (Nat.le_of_ble_eq_true rfl)) dL_law_323 ⟨by show _ ≤ 601024; omega, by show _ ≤ 7293034; omega⟩) hS (fun q _ h => hFc q h) hFc (fun r323 u t H1 locs ht hvm hw hB hz1 hk1 hS => ?_)
    rw [ht] at hB
    have hPd := ap_keep (a13 _ _ _ _ _ _ _ _ _ _ _ _ _ _ _ _ _ _ _ _).comm hPd hk1
    have hPo := ap_keep (a23 _ _ _ _ _ _ _ _ _ _ _ _ _ _).comm hPo hk1
    have hPg := ap_keep (a34 _ _ _ _ _ _ _ _ _ _ _ _ _ _) hPg hk1
    obtain ⟨hk5, hw⟩ := hw
    have e5 : u = k + 1 := hk5.trans hk9.symm
    subst e5
    have hPm : va_P E.1 vwCl (mC E mm (nI (k + 1)) dy rn cn tn NU WE AT zs BU AV LS LT) H1 := hB
    clear hDc hFc
    generalize H1 = H at hPd hPo hPm hPg hS ⊢
    refine lv_istore (lv' := [(7, .int r323), (6, .int (nI (k + 1))), (0, .ref b), (1, .ref (ad 0)), (2, .ref (mm 0)), (3, .ref o0), (4, .ref d0), (5, .int (nI i))]) hx hb dL_law_326 hl (by decide) rfl (fun ls hl => ?_)
    refine lv_aload_n hx hb dL_law_328 rfl (lv_at hl 4 rfl) ?_
    have hPt : va_P E.1 vwCl [(mm 0, .inr (5, [.int (nI (k + 1)), .int (nI dy), .int (nI rn), .ref (mm 1), .ref (mm 2), .ref (mm 3), .ref (mm 4), .ref (mm 5), .int (nI cn), .ref (mm 6), .int (nI tn), .ref (mm 7), .ref (mm 8)]))] H := hPm.sub [0] rfl
    refine va_calli (va_runV (As := []) (rest := []) ⟨hx, hb, hml, hown, hts⟩ (kX5_thrown l E (mm 0) (mm 1) (mm 2) (mm 3) (mm 4) (mm 5) (mm 6) (mm 7) (mm 8) (nI (k + 1)) dy rn cn tn ) (cwV 0 hts gL_law_X5_thrown rfl rfl rfl (by decide +kernel) ⟨Nat.le_of_ble_eq_true rfl, Nat.le_of_ble_eq_true rfl⟩) ⟨fb_R, va_recv hE.1 hPm (ci := 5) (q0 := 0) rfl rfl, fun U hU hW => ⟨rfl, by rw [hU]; exact hPt, hE.warm hW⟩⟩ rfl rfl hl.1 rfl (lv_room (Nat.le_of_ble_eq_true rfl)) dL_law_329 ⟨by show _ ≤ 601024; omega, by show _ ≤ 7293034; omega⟩) hS (fun q _ h => h.elim) (fun q h => h.elim) (fun r329 u t H1 locs ht hvm hw hB hz1 hk1 hS => ?_)
    have hPd := hPd.ro hk1
    have hPo := hPo.ro hk1
    have hPm := hPm.ro hk1
    have hPg := hPg.ro hk1
    generalize H1 = H at hPd hPo hPm hPg hS ⊢
    subst hw
    refine lv_iload hx hb dL_law_332 (lv_at hl 1 rfl) ?_
    refine mz_eqN hx hb (k + 1) (k + 1) (tgt := 339) dL_law_334 (by decide) (by omega) (by omega) (fun _ => ?_) (fun c9 => absurd rfl c9)
    refine lv_iload hx hb dL_law_339 (lv_at hl 1 rfl) ?_
    refine mz_ifneN hx hb (k + 1) (tgt := 356) dL_law_341 (by decide) (by omega) (fun _ => ?_) (fun c9 => absurd c9 (by omega))
    refine lv_goto (tgt := 1642) hx hb dL_law_356 (by decide) ?_
    refine W.widen (k := cl + 740) (n := sl + 3700) (by omega) (by omega) ?_
    exact K _ _ _ ⟨_, _, _, _, _, _, _, _, _, _, _, _, _, _, _, _, _, hR, hPd, hPo, hPm, hPg⟩ hS (lv_sub hl [2, 3, 4, 5, 6, 7] rfl)
set_option maxHeartbeats 4000000 in
set_option maxRecDepth 100000 in
theorem arm_day {p : Program} {e : Env} {s : State} {m : MethodId} {below : List Frame} {meth : Method} {c : Code} (l : Launch) (hlt : l.stackTraces = false) {b L : Nat} {xs : Nat → Int32} (hL : L ≤ 3072) (C0 : lw_At p s m meth c b L xs) {E : ev_T} {ad mm : Nat → Nat} {o0 d0 : Nat} (hE : ev_U E s) (hU9 : ex_U (fun q : Nat => s.heap.size ≤ q) s s.heap) (hLD : LD E ad mm o0 d0 (fun q : Nat => s.heap.size ≤ q)) {i cl sl : Nat} (hi : i + 6 ≤ L) (hcl : cl + 740 ≤ 601024) (hsl : sl + 3700 ≤ 7293034)
    (K : ∀ (H : Heap) (locs : List Loc) (ls : Array Slot), LX E ad mm o0 d0 H → va_S (fun q : Nat => s.heap.size ≤ q) s.heap H locs → lv_has ls 9 [(0, .ref b), (1, .ref (ad 0)), (2, .ref (mm 0)), (3, .ref o0), (4, .ref d0), (5, .int (nI i))] → W p l e room_1 s m #[Value.ref b] below meth c H locs (cl + 740) (sl + 3700) (lw_Z below #[Value.ref b] s) (F0 m 1642 ls []))
    {H : Heap} {locs : List Loc} {ls : Array Slot} (hX0 : LX E ad mm o0 d0 H) (hS : va_S (fun q : Nat => s.heap.size ≤ q) s.heap H locs) (hl : lv_has ls 9 [(0, .ref b), (1, .ref (ad 0)), (2, .ref (mm 0)), (3, .ref o0), (4, .ref d0), (5, .int (nI i))]) : W p l e room_1 s m #[Value.ref b] below meth c H locs cl sl (lw_Z below #[Value.ref b] s) (F0 m 359 ls []) := by
  obtain ⟨hx, hb, hr, hml, hown, hts0, hX, hbl, hlocks, hgv⟩ := id C0
  have hts : ∀ w ∈ wsL_law, w.before #[Value.ref b] s = true := fun w h => hts0 w (wsL_law_in w h)
  have hown : s.vm.findClass RL = some m.cls := hown
  obtain ⟨S, zs, rn, dy, bn, cn, tn, th, NU, WE, AT, BU, AV, LS, LT, f0, g0, hR, hPd, hPo, hPm, hPg⟩ := hX0
  obtain ⟨d1, d2, d3, d4, a12, a13, a14, a23, a24, a34⟩ := hLD
  have hA : ∀ q : Nat, s.heap.size ≤ q → (fun q : Nat => s.heap.size ≤ q) q := fun _ h => h
  have hbA : ¬ (fun q : Nat => s.heap.size ≤ q) b := Nat.not_le.mpr hbl
  obtain ⟨h6, h60, h200, h20⟩ := hR.1
  have hz := hR.hz
  refine lv_aload_n hx hb dL_law_359 rfl (lv_at hl 1 rfl) ?_
  refine va_calli (va_runV (As := []) (rest := []) ⟨hx, hb, hml, hown, hts⟩ (kX4_day l E ad S zs rn dy bn cn tn (by first | omega | assumption | exact hz) (by first | omega | assumption | exact hz)) (cwV 0 hts gL_law_X4_day rfl rfl rfl (by decide +kernel) ⟨Nat.le_of_ble_eq_true rfl, Nat.le_of_ble_eq_true rfl⟩) ⟨fb_R, va_recv hE.1 hPd (ci := 4) (q0 := 0) rfl rfl, fun U hU hW => ⟨rfl, by rw [hU]; exact hPd, hE.warm hW⟩⟩ rfl rfl hl.1 rfl (lv_room (Nat.le_of_ble_eq_true rfl)) dL_law_360 ⟨by show _ ≤ 601024; omega, by show _ ≤ 7293034; omega⟩) hS (fun q _ h => h.elim) (fun q h => h.elim) (fun r360 u t H1 locs ht hvm hw hB hz1 hk1 hS => ?_)
  have hPd := hPd.ro hk1
  have hPo := hPo.ro hk1
  have hPm := hPm.ro hk1
  have hPg := hPg.ro hk1
  generalize H1 = H at hPd hPo hPm hPg hS ⊢
  subst hw
  refine lv_aload_n hx hb dL_law_363 rfl (lv_at hl 2 rfl) ?_
  have hDc : va_D (fun q : Nat => s.heap.size ≤ q) (mC E mm th dy rn cn tn NU WE AT zs BU AV LS LT) := d3 _ _ _ _ _ _ _ _ _ _ _ _ _
  have hFc := fr_free hDc hS hA
  refine va_calli (va_runV (As := []) (rest := [.int (nI dy)]) ⟨hx, hb, hml, hown, hts⟩ (kX5_day l E (mm 0) (mm 1) (mm 2) (mm 3) (mm 4) (mm 5) (mm 6) (mm 7) (mm 8) th dy rn cn tn NU WE AT zs BU AV LS LT H.size ) (cwV 0 hts gL_law_X5_day rfl rfl rfl (by decide +kernel) ⟨Nat.le_of_ble_eq_true rfl, Nat.le_of_ble_eq_true rfl⟩) ⟨fb_W, va_recv hE.1 hPm (ci := 5) (q0 := 0) rfl rfl, fun U hU hW => ⟨rfl, by rw [hU], by rw [hU]; exact hPm, hDc.weaken (fun _ _ _ _ => trivial), hE.warm hW⟩⟩ rfl rfl hl.1 rfl (lv_room (Nat.le_of_ble_eq_true rfl)) dL_law_364 ⟨by show _ ≤ 601024; omega, by show _ ≤ 7293034; omega⟩) hS (fun q _ h => hFc q h) hFc (fun r364 u t H1 locs ht hvm hw hB hz1 hk1 hS => ?_)
  rw [ht] at hB
  have hPd := ap_keep (a13 _ _ _ _ _ _ _ _ _ _ _ _ _ _ _ _ _ _ _ _).comm hPd hk1
  have hPo := ap_keep (a23 _ _ _ _ _ _ _ _ _ _ _ _ _ _).comm hPo hk1
  have hPg := ap_keep (a34 _ _ _ _ _ _ _ _ _ _ _ _ _ _) hPg hk1
  have hPm : va_P E.1 vwCl (mC E mm 0 dy rn cn tn NU WE AT zs BU AV LS LT) H1 := hB
  clear hDc hFc
  generalize H1 = H at hPd hPo hPm hPg hS ⊢
  subst hw
  refine mz_eqN hx hb dy dy (tgt := 1642) dL_law_367 (by decide) (by omega) (by omega) (fun _ => ?_) (fun c9 => absurd rfl c9)
  refine W.widen (k := cl + 740) (n := sl + 3700) (by omega) (by omega) ?_
  exact K _ _ _ ⟨_, _, _, _, _, _, _, _, _, _, _, _, _, _, _, _, _, hR, hPd, hPo, hPm, hPg⟩ hS (lv_sub hl [0, 1, 2, 3, 4, 5] rfl)
set_option maxHeartbeats 4000000 in
set_option maxRecDepth 100000 in
theorem arm_sector {p : Program} {e : Env} {s : State} {m : MethodId} {below : List Frame} {meth : Method} {c : Code} (l : Launch) (hlt : l.stackTraces = false) {b L : Nat} {xs : Nat → Int32} (hL : L ≤ 3072) (C0 : lw_At p s m meth c b L xs) {E : ev_T} {ad mm : Nat → Nat} {o0 d0 : Nat} (hE : ev_U E s) (hU9 : ex_U (fun q : Nat => s.heap.size ≤ q) s s.heap) (hLD : LD E ad mm o0 d0 (fun q : Nat => s.heap.size ≤ q)) {i cl sl : Nat} (hi : i + 6 ≤ L) (hcl : cl + 740 ≤ 601024) (hsl : sl + 3700 ≤ 7293034)
    (K : ∀ (H : Heap) (locs : List Loc) (ls : Array Slot), LX E ad mm o0 d0 H → va_S (fun q : Nat => s.heap.size ≤ q) s.heap H locs → lv_has ls 9 [(0, .ref b), (1, .ref (ad 0)), (2, .ref (mm 0)), (3, .ref o0), (4, .ref d0), (5, .int (nI i))] → W p l e room_1 s m #[Value.ref b] below meth c H locs (cl + 740) (sl + 3700) (lw_Z below #[Value.ref b] s) (F0 m 1642 ls []))
    {H : Heap} {locs : List Loc} {ls : Array Slot} (hX0 : LX E ad mm o0 d0 H) (hS : va_S (fun q : Nat => s.heap.size ≤ q) s.heap H locs) (hl : lv_has ls 9 [(0, .ref b), (1, .ref (ad 0)), (2, .ref (mm 0)), (3, .ref o0), (4, .ref d0), (5, .int (nI i))]) : W p l e room_1 s m #[Value.ref b] below meth c H locs cl sl (lw_Z below #[Value.ref b] s) (F0 m 372 ls []) := by
  obtain ⟨hx, hb, hr, hml, hown, hts0, hX, hbl, hlocks, hgv⟩ := id C0
  have hts : ∀ w ∈ wsL_law, w.before #[Value.ref b] s = true := fun w h => hts0 w (wsL_law_in w h)
  have hown : s.vm.findClass RL = some m.cls := hown
  obtain ⟨S, zs, rn, dy, bn, cn, tn, th, NU, WE, AT, BU, AV, LS, LT, f0, g0, hR, hPd, hPo, hPm, hPg⟩ := hX0
  obtain ⟨d1, d2, d3, d4, a12, a13, a14, a23, a24, a34⟩ := hLD
  have hA : ∀ q : Nat, s.heap.size ≤ q → (fun q : Nat => s.heap.size ≤ q) q := fun _ h => h
  have hbA : ¬ (fun q : Nat => s.heap.size ≤ q) b := Nat.not_le.mpr hbl
  obtain ⟨h6, h60, h200, h20⟩ := hR.1
  have hz := hR.hz
  refine lv_aload_n hx hb dL_law_372 rfl (lv_at hl 1 rfl) ?_
  refine lv_aload_n hx hb dL_law_373 rfl (lv_at hl 0 rfl) ?_
  refine lv_iload hx hb dL_law_374 (lv_at hl 5 rfl) ?_
  refine lv_iconst (v := 1) hx hb dL_law_376 (by decide) ?_
  refine mz_addN hx hb i 1 dL_law_377 ?_
  refine la_sld hx hb hX hbl hbA hS (i + 1) (by omega) hL dL_law_378 ?_
  refine lv_aload_n hx hb dL_law_379 rfl (lv_at hl 0 rfl) ?_
  refine lv_iload hx hb dL_law_380 (lv_at hl 5 rfl) ?_
  refine lv_iconst (v := 2) hx hb dL_law_382 (by decide) ?_
  refine mz_addN hx hb i 2 dL_law_383 ?_
  refine la_sld hx hb hX hbl hbA hS (i + 2) (by omega) hL dL_law_384 ?_
  refine lv_aload_n hx hb dL_law_385 rfl (lv_at hl 0 rfl) ?_
  refine lv_iload hx hb dL_law_386 (lv_at hl 5 rfl) ?_
  refine lv_iconst (v := 3) hx hb dL_law_388 (by decide) ?_
  refine mz_addN hx hb i 3 dL_law_389 ?_
  refine la_sld hx hb hX hbl hbA hS (i + 3) (by omega) hL dL_law_390 ?_
  refine lv_aload_n hx hb dL_law_391 rfl (lv_at hl 3 rfl) ?_
  have hPw : va_P E.1 vwCl ((dC E ad S zs rn dy bn cn tn) ++ [oL E o0 f0]) H := hPd.app hPo
  have hDw : va_D (fun q : Nat => s.heap.size ≤ q) ((dC E ad S zs rn dy bn cn tn) ++ [oL E o0 f0]) := (d1 _ _ _ _ _ _ _).app (d2 _) (a12 _ _ _ _ _ _ _ _)
  have hFc := fr_free hDw hS hA
  refine va_calli (vx_runSW (As := [.ref (ad 0), .int (xs (i + 1)), .int (xs (i + 2)), .int (xs (i + 3)), .ref o0]) (rest := []) ⟨hx, hb, hml, hown, hts⟩ (kL_sector l hlt E ad S zs rn dy bn cn tn (xs (i + 1)) (xs (i + 2)) (xs (i + 3)) o0 f0 H.size (by first | omega | assumption | exact h60 | exact h6 | exact h20 | exact h200) (by first | omega | assumption | exact h60 | exact h6 | exact h20 | exact h200)) (vx_cwSW 5 hts gL_law_L_sector rfl rfl rfl (by decide +kernel) ⟨Nat.le_of_ble_eq_true rfl, Nat.le_of_ble_eq_true rfl⟩) ⟨fb_Y, fun U hU hW => ⟨rfl, by rw [hU], by rw [hU]; exact hPw, hDw.weaken (fun _ _ _ _ => trivial), hE.warm hW, hU9.to hS hFc hU hW⟩⟩ rfl rfl hl.1 rfl (lv_room (Nat.le_of_ble_eq_true rfl)) dL_law_392 ⟨by show _ ≤ 601024; omega, by show _ ≤ 7293034; omega⟩) hS (fun q _ h => hFc q h) hFc (fun r9 k t H1 locs ht hvm hw hB hz1 hk1 hS => ?_)
  obtain ⟨hr9, hk9⟩ := hw
  subst hr9
  rw [ht] at hB
  have hPm := ap_keep (ap.both (a13 _ _ _ _ _ _ _ _ _ _ _ _ _ _ _ _ _ _ _ _) (a23 _ _ _ _ _ _ _ _ _ _ _ _ _ _)) hPm hk1
  have hPg := ap_keep (ap.both (a14 _ _ _ _ _ _ _ _) (a24 _ _)) hPg hk1
  have hle9 := tSec_le (xs (i + 1)) (xs (i + 2)) (xs (i + 3)) rn
  rcases Nat.eq_zero_or_pos k with hk0 | hk0
  · subst hk0
    have hB : va_P E.1 vwCl ((dC E ad S zs rn dy bn cn tn) ++ [oL E o0 (vp_updL f0 0 (Int32.toInt64 (S (3 + 2 * (Int32.toNatClampNeg (xs (i + 1)))) ((Int32.toNatClampNeg (xs (i + 2))) * 5 + (Int32.toNatClampNeg (xs (i + 3)))))))]) H1 := hB
    have hPd := fr_l hB
    have hPo := fr_r hB
    clear hPw hDw hFc
    generalize H1 = H at hPd hPo hPm hPg hS ⊢
    refine lv_istore (lv' := [(6, .int 0), (0, .ref b), (1, .ref (ad 0)), (2, .ref (mm 0)), (3, .ref o0), (4, .ref d0), (5, .int (nI i))]) hx hb dL_law_395 hl (by decide) rfl (fun ls hl => ?_)
    refine lv_aload_n hx hb dL_law_397 rfl (lv_at hl 3 rfl) ?_
    refine lv_aload_n hx hb dL_law_398 rfl (lv_at hl 1 rfl) ?_
    refine lv_iload hx hb dL_law_399 (lv_at hl 6 rfl) ?_
    refine lv_iconst (v := 1) hx hb dL_law_401 (by decide) ?_
    refine mz_addN hx hb i 1 dL_law_402 ?_
    refine la_sld hx hb hX hbl hbA hS (i + 1) (by omega) hL dL_law_403 ?_
    refine lv_aload_n hx hb dL_law_404 rfl (lv_at hl 1 rfl) ?_
    refine lv_iload hx hb dL_law_405 (lv_at hl 6 rfl) ?_
    refine lv_iconst (v := 2) hx hb dL_law_407 (by decide) ?_
    refine mz_addN hx hb i 2 dL_law_408 ?_
    refine la_sld hx hb hX hbl hbA hS (i + 2) (by omega) hL dL_law_409 ?_
    refine lv_aload_n hx hb dL_law_410 rfl (lv_at hl 1 rfl) ?_
    refine lv_iload hx hb dL_law_411 (lv_at hl 6 rfl) ?_
    refine lv_iconst (v := 3) hx hb dL_law_413 (by decide) ?_
    refine mz_addN hx hb i 3 dL_law_414 ?_
    refine la_sld hx hb hX hbl hbA hS (i + 3) (by omega) hL dL_law_415 ?_
    have hDc : va_D (fun q : Nat => s.heap.size ≤ q) (mC E mm th dy rn cn tn NU WE AT zs BU AV LS LT) := d3 _ _ _ _ _ _ _ _ _ _ _ _ _
    have hFc := fr_free hDc hS hA
    refine va_calli (va_runV (As := [.int (xs (i + 1)), .int (xs (i + 2)), .int (xs (i + 3))]) (rest := []) ⟨hx, hb, hml, hown, hts⟩ (kX5_sector l E (mm 0) (mm 1) (mm 2) (mm 3) (mm 4) (mm 5) (mm 6) (mm 7) (mm 8) th dy rn cn tn NU WE AT zs BU AV LS LT (xs (i + 1)) (xs (i + 2)) (xs (i + 3)) H.size (by first | omega | assumption | exact hz) (by first | omega | assumption | exact hz)) (cwV 3 hts gL_law_X5_sector rfl rfl rfl (by decide +kernel) ⟨Nat.le_of_ble_eq_true rfl, Nat.le_of_ble_eq_true rfl⟩) ⟨fb_W, va_recv hE.1 hPm (ci := 5) (q0 := 0) rfl rfl, fun U hU hW => ⟨rfl, by rw [hU], by rw [hU]; exact hPm, hDc.weaken (fun _ _ _ _ => trivial), hE.warm hW⟩⟩ rfl rfl hl.1 rfl (lv_room (Nat.le_of_ble_eq_true rfl)) dL_law_416 ⟨by show _ ≤ 601024; omega, by show _ ≤ 7293034; omega⟩) hS (fun q _ h => hFc q h) hFc (fun r416 u t H1 locs ht hvm hw hB hz1 hk1 hS => ?_)
    rw [ht] at hB
    have hPd := ap_keep (a13 _ _ _ _ _ _ _ _ _ _ _ _ _ _ _ _ _ _ _ _).comm hPd hk1
    have hPo := ap_keep (a23 _ _ _ _ _ _ _ _ _ _ _ _ _ _).comm hPo hk1
    have hPg := ap_keep (a34 _ _ _ _ _ _ _ _ _ _ _ _ _ _) hPg hk1
    obtain ⟨hk5, hw⟩ := hw
    have e5 : u = 0 := hk5.trans hk9.symm
    subst e5
    have hw := hw rfl
    have hPm : va_P E.1 vwCl (mC E mm 0 dy rn cn tn NU WE AT zs BU AV LS LT) H1 := hB
    clear hDc hFc
    generalize H1 = H at hPd hPo hPm hPg hS ⊢
    subst hw
    have heq := op_sector hR (xs (i + 1)) (xs (i + 2)) (xs (i + 3)) hk9
    refine lv_istore (lv' := [(7, .int (NU ((12 * (Int32.toNatClampNeg (xs (i + 1))) + (Int32.toNatClampNeg (xs (i + 2)))) * 5 + (Int32.toNatClampNeg (xs (i + 3)))))), (6, .int 0), (0, .ref b), (1, .ref (ad 0)), (2, .ref (mm 0)), (3, .ref o0), (4, .ref d0), (5, .int (nI i))]) hx hb dL_law_419 hl (by decide) rfl (fun ls hl => ?_)
    refine lv_aload_n hx hb dL_law_421 rfl (lv_at hl 4 rfl) ?_
    have hPt : va_P E.1 vwCl [(mm 0, .inr (5, [.int 0, .int (nI dy), .int (nI rn), .ref (mm 1), .ref (mm 2), .ref (mm 3), .ref (mm 4), .ref (mm 5), .int (nI cn), .ref (mm 6), .int (nI tn), .ref (mm 7), .ref (mm 8)]))] H := hPm.sub [0] rfl
    refine va_calli (va_runV (As := []) (rest := []) ⟨hx, hb, hml, hown, hts⟩ (kX5_thrown l E (mm 0) (mm 1) (mm 2) (mm 3) (mm 4) (mm 5) (mm 6) (mm 7) (mm 8) 0 dy rn cn tn ) (cwV 0 hts gL_law_X5_thrown rfl rfl rfl (by decide +kernel) ⟨Nat.le_of_ble_eq_true rfl, Nat.le_of_ble_eq_true rfl⟩) ⟨fb_R, va_recv hE.1 hPm (ci := 5) (q0 := 0) rfl rfl, fun U hU hW => ⟨rfl, by rw [hU]; exact hPt, hE.warm hW⟩⟩ rfl rfl hl.1 rfl (lv_room (Nat.le_of_ble_eq_true rfl)) dL_law_422 ⟨by show _ ≤ 601024; omega, by show _ ≤ 7293034; omega⟩) hS (fun q _ h => h.elim) (fun q h => h.elim) (fun r422 u t H1 locs ht hvm hw hB hz1 hk1 hS => ?_)
    have hPd := hPd.ro hk1
    have hPo := hPo.ro hk1
    have hPm := hPm.ro hk1
    have hPg := hPg.ro hk1
    generalize H1 = H at hPd hPo hPm hPg hS ⊢
    subst hw
    refine lv_iload hx hb dL_law_425 (lv_at hl 1 rfl) ?_
    refine mz_eqN hx hb 0 0 (tgt := 432) dL_law_427 (by decide) (by omega) (by omega) (fun _ => ?_) (fun c9 => absurd rfl c9)
    refine lv_iload hx hb dL_law_432 (lv_at hl 1 rfl) ?_
    refine lv_if_ne (tgt := 449) hx hb dL_law_434 (by decide) (fun c9 => absurd rfl c9) (fun _ => ?_)
    refine lv_aload_n hx hb dL_law_437 rfl (lv_at hl 5 rfl) ?_
    refine lv_iconst (v := 0) hx hb dL_law_438 (by decide) ?_
    refine la_lld hx hb hE hPo dL_law_439 ?_
    refine lv_iload hx hb dL_law_440 (lv_at hl 0 rfl) ?_
    refine lv_i2l hx hb dL_law_442 rfl ?_
    refine la_eqL hx hb (congrArg Int32.toInt64 heq) (tgt := 449) dL_law_443 dL_law_444 (by decide) ?_
    refine lv_goto (tgt := 1642) hx hb dL_law_449 (by decide) ?_
    refine W.widen (k := cl + 740) (n := sl + 3700) (by omega) (by omega) ?_
    exact K _ _ _ ⟨_, _, _, _, _, _, _, _, _, _, _, _, _, _, _, _, _, hR, hPd, hPo, hPm, hPg⟩ hS (lv_sub hl [2, 3, 4, 5, 6, 7] rfl)
  · obtain ⟨k, rfl⟩ : ∃ k9, k = k9 + 1 := ⟨k - 1, by omega⟩
    have hB : va_P E.1 vwCl ((dC E ad S zs rn dy bn cn tn) ++ [oL E o0 f0]) H1 := hB
    have hPd := fr_l hB
    have hPo := fr_r hB
    clear hPw hDw hFc
    generalize H1 = H at hPd hPo hPm hPg hS ⊢
    refine lv_istore (lv' := [(6, .int (nI (k + 1))), (0, .ref b), (1, .ref (ad 0)), (2, .ref (mm 0)), (3, .ref o0), (4, .ref d0), (5, .int (nI i))]) hx hb dL_law_395 hl (by decide) rfl (fun ls hl => ?_)
    refine lv_aload_n hx hb dL_law_397 rfl (lv_at hl 3 rfl) ?_
    refine lv_aload_n hx hb dL_law_398 rfl (lv_at hl 1 rfl) ?_
    refine lv_iload hx hb dL_law_399 (lv_at hl 6 rfl) ?_
    refine lv_iconst (v := 1) hx hb dL_law_401 (by decide) ?_
    refine mz_addN hx hb i 1 dL_law_402 ?_
    refine la_sld hx hb hX hbl hbA hS (i + 1) (by omega) hL dL_law_403 ?_
    refine lv_aload_n hx hb dL_law_404 rfl (lv_at hl 1 rfl) ?_
    refine lv_iload hx hb dL_law_405 (lv_at hl 6 rfl) ?_
    refine lv_iconst (v := 2) hx hb dL_law_407 (by decide) ?_
    refine mz_addN hx hb i 2 dL_law_408 ?_
    refine la_sld hx hb hX hbl hbA hS (i + 2) (by omega) hL dL_law_409 ?_
    refine lv_aload_n hx hb dL_law_410 rfl (lv_at hl 1 rfl) ?_
    refine lv_iload hx hb dL_law_411 (lv_at hl 6 rfl) ?_
    refine lv_iconst (v := 3) hx hb dL_law_413 (by decide) ?_
    refine mz_addN hx hb i 3 dL_law_414 ?_
    refine la_sld hx hb hX hbl hbA hS (i + 3) (by omega) hL dL_law_415 ?_
    have hDc : va_D (fun q : Nat => s.heap.size ≤ q) (mC E mm th dy rn cn tn NU WE AT zs BU AV LS LT) := d3 _ _ _ _ _ _ _ _ _ _ _ _ _
    have hFc := fr_free hDc hS hA
    refine va_calli (va_runV (As := [.int (xs (i + 1)), .int (xs (i + 2)), .int (xs (i + 3))]) (rest := []) ⟨hx, hb, hml, hown, hts⟩ (kX5_sector l E (mm 0) (mm 1) (mm 2) (mm 3) (mm 4) (mm 5) (mm 6) (mm 7) (mm 8) th dy rn cn tn NU WE AT zs BU AV LS LT (xs (i + 1)) (xs (i + 2)) (xs (i + 3)) H.size (by first | omega | assumption | exact hz) (by first | omega | assumption | exact hz)) (cwV 3 hts gL_law_X5_sector rfl rfl rfl (by decide +kernel) ⟨Nat.le_of_ble_eq_true rfl, Nat.le_of_ble_eq_true rfl⟩) ⟨fb_W, va_recv hE.1 hPm (ci := 5) (q0 := 0) rfl rfl, fun U hU hW => ⟨rfl, by rw [hU], by rw [hU]; exact hPm, hDc.weaken (fun _ _ _ _ => trivial), hE.warm hW⟩⟩ rfl rfl hl.1 rfl (lv_room (Nat.le_of_ble_eq_true rfl)) dL_law_416 ⟨by show _ ≤ 601024; omega, by show _ ≤ 7293034; omega⟩) hS (fun q _ h => hFc q h) hFc (fun r416 u t H1 locs ht hvm hw hB hz1 hk1 hS => ?_)
    rw [ht] at hB
    have hPd := ap_keep (a13 _ _ _ _ _ _ _ _ _ _ _ _ _ _ _ _ _ _ _ _).comm hPd hk1
    have hPo := ap_keep (a23 _ _ _ _ _ _ _ _ _ _ _ _ _ _).comm hPo hk1
    have hPg := ap_keep (a34 _ _ _ _ _ _ _ _ _ _ _ _ _ _) hPg hk1
    obtain ⟨hk5, hw⟩ := hw
    have e5 : u = k + 1 := hk5.trans hk9.symm
    subst e5
    have hPm : va_P E.1 vwCl (mC E mm (nI (k + 1)) dy rn cn tn NU WE AT zs BU AV LS LT) H1 := hB
    clear hDc hFc
    generalize H1 = H at hPd hPo hPm hPg hS ⊢
    refine lv_istore (lv' := [(7, .int r416), (6, .int (nI (k + 1))), (0, .ref b), (1, .ref (ad 0)), (2, .ref (mm 0)), (3, .ref o0), (4, .ref d0), (5, .int (nI i))]) hx hb dL_law_419 hl (by decide) rfl (fun ls hl => ?_)
    refine lv_aload_n hx hb dL_law_421 rfl (lv_at hl 4 rfl) ?_
    have hPt : va_P E.1 vwCl [(mm 0, .inr (5, [.int (nI (k + 1)), .int (nI dy), .int (nI rn), .ref (mm 1), .ref (mm 2), .ref (mm 3), .ref (mm 4), .ref (mm 5), .int (nI cn), .ref (mm 6), .int (nI tn), .ref (mm 7), .ref (mm 8)]))] H := hPm.sub [0] rfl
    refine va_calli (va_runV (As := []) (rest := []) ⟨hx, hb, hml, hown, hts⟩ (kX5_thrown l E (mm 0) (mm 1) (mm 2) (mm 3) (mm 4) (mm 5) (mm 6) (mm 7) (mm 8) (nI (k + 1)) dy rn cn tn ) (cwV 0 hts gL_law_X5_thrown rfl rfl rfl (by decide +kernel) ⟨Nat.le_of_ble_eq_true rfl, Nat.le_of_ble_eq_true rfl⟩) ⟨fb_R, va_recv hE.1 hPm (ci := 5) (q0 := 0) rfl rfl, fun U hU hW => ⟨rfl, by rw [hU]; exact hPt, hE.warm hW⟩⟩ rfl rfl hl.1 rfl (lv_room (Nat.le_of_ble_eq_true rfl)) dL_law_422 ⟨by show _ ≤ 601024; omega, by show _ ≤ 7293034; omega⟩) hS (fun q _ h => h.elim) (fun q h => h.elim) (fun r422 u t H1 locs ht hvm hw hB hz1 hk1 hS => ?_)
    have hPd := hPd.ro hk1
    have hPo := hPo.ro hk1
    have hPm := hPm.ro hk1
    have hPg := hPg.ro hk1
    generalize H1 = H at hPd hPo hPm hPg hS ⊢
    subst hw
    refine lv_iload hx hb dL_law_425 (lv_at hl 1 rfl) ?_
    refine mz_eqN hx hb (k + 1) (k + 1) (tgt := 432) dL_law_427 (by decide) (by omega) (by omega) (fun _ => ?_) (fun c9 => absurd rfl c9)
    refine lv_iload hx hb dL_law_432 (lv_at hl 1 rfl) ?_
    refine mz_ifneN hx hb (k + 1) (tgt := 449) dL_law_434 (by decide) (by omega) (fun _ => ?_) (fun c9 => absurd c9 (by omega))
    refine lv_goto (tgt := 1642) hx hb dL_law_449 (by decide) ?_
    refine W.widen (k := cl + 740) (n := sl + 3700) (by omega) (by omega) ?_
    exact K _ _ _ ⟨_, _, _, _, _, _, _, _, _, _, _, _, _, _, _, _, _, hR, hPd, hPo, hPm, hPg⟩ hS (lv_sub hl [2, 3, 4, 5, 6, 7] rfl)
