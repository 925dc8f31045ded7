/-! inCore: doubles that are never a NaN -/
def n64_P : Jvm.FP.Core.Datum → Prop
  | .nan => False
  | .inf _ => True
  | .fin _ c q => c < 9007199254740992 ∧ q ≤ 971
theorem n64_bd (s : Bool) (c : Nat) (q : Int) (hc : c < 9007199254740992) : n64_P (Jvm.FP.Core.bound Jvm.FP.Core.b64 s c q) := by
  unfold Jvm.FP.Core.bound
  have e : Jvm.FP.Core.b64.qmax = 971 := by decide
  rw [e]
  by_cases h : q ≤ 971
  · rw [if_pos h]; exact ⟨hc, h⟩
  · rw [if_neg h]; trivial
theorem n64_rr (s : Bool) (a b : Nat) (e : Int) : n64_P (Jvm.FP.Core.roundRatio Jvm.FP.Core.b64 s a b e) := by
  unfold Jvm.FP.Core.roundRatio
  by_cases h : a = 0
  · rw [if_pos h]; exact ⟨by decide, by decide⟩
  · rw [if_neg h]
    unfold Jvm.FP.Core.roundAt Jvm.FP.Core.settle
    have e2 : (2 : Nat) ^ Jvm.FP.Core.b64.p = 9007199254740992 := by decide
    have e3 : Jvm.FP.Core.b64.tails = 4503599627370496 := by decide
    rw [e2, e3]
    generalize Jvm.FP.Core.nearest _ _ = c
    by_cases h2 : c < 9007199254740992
    · rw [if_pos h2]; exact n64_bd _ _ _ h2
    · rw [if_neg h2]; exact n64_bd _ _ _ (by decide)
theorem n64_nat {n : Nat} (h : n % 9223372036854775808 ≤ 9218868437227405312) : vf_n64 (UInt64.ofNat n) := by
  unfold vf_n64
  rw [UInt64.le_iff_toNat_le, UInt64.toNat_and, UInt64.toNat_ofNat']
  show n % 2 ^ 64 &&& 9223372036854775807 ≤ 9218868437227405312
  rw [show n % 2 ^ 64 &&& 9223372036854775807 = n % 2 ^ 64 % 9223372036854775808 from Nat.and_two_pow_sub_one_eq_mod _ 63]
  omega
theorem n64_enc {d : Jvm.FP.Core.Datum} (h : n64_P d) : vf_n64 (UInt64.ofNat (Jvm.FP.Core.encode Jvm.FP.Core.b64 d)) := by
  have e3 : Jvm.FP.Core.b64.tails = 4503599627370496 := by decide
  have e4 : Jvm.FP.Core.b64.exps = 2048 := by decide
  have e5 : Jvm.FP.Core.b64.qmin = -1074 := by decide
  refine n64_nat ?_
  cases d with
  | nan => exact h.elim
  | inf s =>
    show ((s.toNat * Jvm.FP.Core.b64.exps + (Jvm.FP.Core.b64.exps - 1)) * Jvm.FP.Core.b64.tails + 0) % 9223372036854775808 ≤ _
    rw [e3, e4]
    cases s <;> decide
  | fin s c q =>
    obtain ⟨hc, hq⟩ := h
    unfold Jvm.FP.Core.encode Jvm.FP.Core.assemble
    rw [e3, e4, e5]
    by_cases h2 : c < 4503599627370496
    · show (if c < 4503599627370496 then (s.toNat * 2048 + 0) * 4503599627370496 + c else (s.toNat * 2048 + ((q - -1074).toNat + 1)) * 4503599627370496 + (c - 4503599627370496)) % 9223372036854775808 ≤ _
      rw [if_pos h2]
      cases s
      · show ((0 * 2048 + 0) * 4503599627370496 + c) % 9223372036854775808 ≤ _
        omega
      · show ((1 * 2048 + 0) * 4503599627370496 + c) % 9223372036854775808 ≤ _
        omega
    · show (if c < 4503599627370496 then (s.toNat * 2048 + 0) * 4503599627370496 + c else (s.toNat * 2048 + ((q - -1074).toNat + 1)) * 4503599627370496 + (c - 4503599627370496)) % 9223372036854775808 ≤ _
      rw [if_neg h2]
      have hz : (q - -1074).toNat ≤ 2045 := by omega
      generalize (q - -1074).toNat = z at hz ⊢
      cases s
      · show ((0 * 2048 + (z + 1)) * 4503599627370496 + (c - 4503599627370496)) % 9223372036854775808 ≤ _
        omega
      · show ((1 * 2048 + (z + 1)) * 4503599627370496 + (c - 4503599627370496)) % 9223372036854775808 ≤ _
        omega
theorem n64_nn {r : UInt64} (h : vf_n64 r) : Jvm.FP.Core.decode Jvm.FP.Core.b64 r.toNat ≠ .nan := by
  unfold vf_n64 at h
  rw [UInt64.le_iff_toNat_le, UInt64.toNat_and] at h
  have h : r.toNat &&& 9223372036854775807 ≤ 9218868437227405312 := h
  rw [show r.toNat &&& 9223372036854775807 = r.toNat % 9223372036854775808 from Nat.and_two_pow_sub_one_eq_mod _ 63] at h
  unfold Jvm.FP.Core.decode Jvm.FP.Core.fieldE Jvm.FP.Core.fieldT
  rw [show Jvm.FP.Core.b64.tails = 4503599627370496 from by decide, show Jvm.FP.Core.b64.exps = 2048 from by decide]
  by_cases h1 : r.toNat / 4503599627370496 % 2048 = 2048 - 1
  · rw [if_pos h1, if_pos (by omega)]; exact fun q => Jvm.FP.Core.Datum.noConfusion q
  · rw [if_neg h1]
    by_cases h2 : r.toNat / 4503599627370496 % 2048 = 0
    · rw [if_pos h2]; exact fun q => Jvm.FP.Core.Datum.noConfusion q
    · rw [if_neg h2]; exact fun q => Jvm.FP.Core.Datum.noConfusion q
theorem n64_i2d (x : Int32) : vf_n64 (FP.i2d x) := n64_enc (n64_rr _ _ _ _)
def n64_ok : Jvm.FP.Core.Datum → Bool
  | .fin _ d _ => !(d == 0)
  | _ => false
theorem n64_dec : ∀ b : Nat, b < 201 → ¬ b = 0 → n64_ok (Jvm.FP.Core.decode Jvm.FP.Core.b64 (FP.i2d (nI b)).toNat) = true := by decide +kernel
theorem n64_quo {x y : Jvm.FP.Core.Datum} (hx : x ≠ .nan) (hy : n64_ok y = true) : n64_P (Jvm.FP.Core.quotient Jvm.FP.Core.b64 x y) := by
  cases y with
  | nan => exact absurd hy (by decide)
  | inf t => exact absurd hy (fun q => Bool.noConfusion q)
  | fin t d r =>
    have hd : ¬ d = 0 := fun q => by subst q; exact absurd hy (fun h => Bool.noConfusion h)
    cases x with
    | nan => exact absurd rfl hx
    | inf s => trivial
    | fin s c q =>
      unfold Jvm.FP.Core.quotient
      simp only [if_neg hd]
      exact n64_rr _ _ _ _
theorem n64_div (x : Int32) (b : Nat) (h2 : b < 201) (h0 : ¬ b = 0) : vf_n64 (FP.ddiv (FP.i2d x) (FP.i2d (nI b))) :=
  n64_enc (n64_quo (n64_nn (n64_i2d x)) (n64_dec b h2 h0))
def icA (S : Nat → Nat → Int32) (zs : Nat → Nat) (r : Nat) : Nat → Nat
  | 0 => 0
  | k + 1 => if S 21 k = nI r then (if tellsF zs (S 20 k) (nI r) = 0 then icA S zs r k else icA S zs r k + 1) else icA S zs r k
def icB (S : Nat → Nat → Int32) (zs : Nat → Nat) (r : Nat) : Nat → Int32
  | 0 => 0
  | k + 1 => if S 21 k = nI r then (if tellsF zs (S 20 k) (nI r) = 0 then icB S zs r k else icB S zs r k + bitF (S 18 (((S 20 k).toNatClampNeg * 6 + r) * 3 + 1)) (S 22 k)) else icB S zs r k
theorem icA_le (S : Nat → Nat → Int32) (zs : Nat → Nat) (r : Nat) : ∀ k, icA S zs r k ≤ k
  | 0 => Nat.le_refl 0
  | k + 1 => by
    have h := icA_le S zs r k
    unfold icA
    split
    · split <;> omega
    · omega
def icR (S : Nat → Nat → Int32) (zs : Nat → Nat) (r n : Nat) : UInt64 := if icA S zs r n = 0 then FP.dconst1 else FP.ddiv (FP.i2d (icB S zs r n)) (FP.i2d (nI (icA S zs r n)))
theorem nI_inj {a b : Nat} (ha : a < 2147483648) (hb : b < 2147483648) (h : nI a = nI b) : a = b := (nI_eq ha hb).mp h
theorem tells_ok1 {zs : Nat → Nat} {d : Int32} {r : Nat} (hz : ∀ k, k ≤ 60 → zs k ≤ 6) (hr : r < 6) (h : ¬ tellsF zs d (nI r) = 0) : ∃ jd, jd < 61 ∧ r < zs jd ∧ d = nI jd := by
  obtain ⟨jd, jr, h1, h2, h3, h4, _, _⟩ := tells_ok hz h
  have hb := hz jd (by omega)
  have e := nI_inj (by omega) (by omega) h4
  exact ⟨jd, h1, by omega, h3⟩
def jcA (BU AV : Nat → Int32) (zs : Nat → Nat) (r : Nat) : Nat → Nat
  | 0 => 0
  | k + 1 => if AV (4 * k + 1) = nI r then (if r < zs (AV (4 * k)).toNatClampNeg then jcA BU AV zs r k + 1 else jcA BU AV zs r k) else jcA BU AV zs r k
def jcB (BU AV : Nat → Int32) (zs : Nat → Nat) (r : Nat) : Nat → Int32
  | 0 => 0
  | k + 1 => if AV (4 * k + 1) = nI r then (if r < zs (AV (4 * k)).toNatClampNeg then jcB BU AV zs r k + bitF (BU ((6 * (AV (4 * k)).toNatClampNeg + r) * 3 + 1)) (AV (4 * k + 2)) else jcB BU AV zs r k) else jcB BU AV zs r k
theorem jcA_le (BU AV : Nat → Int32) (zs : Nat → Nat) (r : Nat) : ∀ k, jcA BU AV zs r k ≤ k
  | 0 => Nat.le_refl 0
  | k + 1 => by
    have h := jcA_le BU AV zs r k
    unfold jcA
    split
    · split <;> omega
    · omega
def jcR (BU AV : Nat → Int32) (zs : Nat → Nat) (r n : Nat) : UInt64 := if jcA BU AV zs r n = 0 then FP.dconst1 else FP.ddiv (FP.i2d (jcB BU AV zs r n)) (FP.i2d (nI (jcA BU AV zs r n)))
set_option maxHeartbeats 4000000 in
set_option maxRecDepth 100000 in
theorem kX4_inCore (l : Launch) (hlt : l.stackTraces = false) (E : ev_T) (ad : Nat → Nat) (S : Nat → Nat → Int32) (zs : Nat → Nat) (rn : Nat) (dy : Nat) (bn : Nat) (cn : Nat) (tn : Nat) (xr : Int32) (hrn : rn ≤ 6) (hdy : dy ≤ 60) (hz : ∀ k, k ≤ 60 → zs k ≤ 6) (hcn : cn ≤ 200) : vx_Met l yX4_inCore wsX4_inCore ({ frames := 7, cells := 1, slots := 6, locals := 103 } : Room) (va_Pc [.ref (ad 0), .int xr] (pr_X E (dC E ad S zs rn dy bn cn tn))) (va_Qd (fun (r : UInt64) (_ : Unit) => 0 = tReg xr rn ∧ r = icR S zs (Int32.toNatClampNeg xr) cn) (fun _ _ => True) (fun _ : Nat => False)) (vx_X (fun (k : Nat) => k = tReg xr rn ∧ ¬ k = 0) (fun Ex k _ => Ex = exn ((exm 3 0 0) k)) (fun _ : Nat => False)) 1 6 (fun _ : Nat => False) := by
  refine vx_ofW (cc := cX4_inCore) (maxL := 6) (ret := (some .double)) (by decide) rfl ?_
  intro p e s m args below meth c s₁ B hml htb hv
  obtain ⟨rfl, hP, hE, hU9⟩ := hv
  have hx := B.exec
  have hb := B.bytes
  have hr := B.returns
  have hts := atoms_spec (ws := wsX4_inCore) B.pre
  have hown : s.vm.findClass RX4 = some m.cls := findClass_of_methodNamed B.named
  have hlocks := B.notSynchronized
  refine mz_start (fun H locs hH hL => ?_)
  have hS : va_S (fun _ : Nat => False) s.heap H locs := by rw [hH, hL]; exact va_S.rf
  have f_30 := hts (.fieldLink RX4 30 "AvalancheDesk" "sightings" "LAvalancheDesk$Avalanches;") (by decide +kernel)
  have inX4 : ∀ w ∈ wsX40, w ∈ wsX4_inCore := by decide +kernel
  have f_186 : (Cond.fieldLinkNest RX4 186 RX0 "count" "I" RX4).before [.ref (ad 0), .int xr].toArray s = true := va_Nw.use rfl (hE.2.1 _ (by decide +kernel))
  have inX0 : ∀ w ∈ wsX00, w ∈ wsX4_inCore := by decide +kernel
  have f_187 : (Cond.fieldLinkNest RX4 187 RX0 "days" "[I" RX4).before [.ref (ad 0), .int xr].toArray s = true := va_Nw.use rfl (hE.2.1 _ (by decide +kernel))
  have f_191 : (Cond.fieldLinkNest RX4 191 RX0 "places" "[I" RX4).before [.ref (ad 0), .int xr].toArray s = true := va_Nw.use rfl (hE.2.1 _ (by decide +kernel))
  have f_23 := hts (.fieldLink RX4 23 "AvalancheDesk" "archive" "LAvalancheDesk$Bulletins;") (by decide +kernel)
  have f_194 : (Cond.fieldLinkNest RX4 194 RX0 "sectors" "[I" RX4).before [.ref (ad 0), .int xr].toArray s = true := va_Nw.use rfl (hE.2.1 _ (by decide +kernel))
  have hl := lv_entry ([.ref (ad 0), .int xr]) (n := 6) (Nat.le_of_ble_eq_true rfl)
  rw [lg_entry_eq]
  generalize (lg_sl ([.ref (ad 0), .int xr]) ++ List.replicate (6 - (lg_sl ([.ref (ad 0), .int xr])).length) Slot.unset).toArray = ls at hl ⊢
  have hl : lv_has ls 6 [(0, .ref (ad 0)), (1, .int xr)] := hl
  have hP : va_P E.1 vwCl (dC E ad S zs rn dy bn cn tn) H := by rw [hH]; exact hP
  refine lv_aload_n hx hb dX4_inCore_0 rfl (lv_at hl 0 rfl) ?_
  refine lv_iload_n hx hb dX4_inCore_1 rfl (lv_at hl 1 rfl) ?_
  refine vx_callv (vx_runV (As := [.int xr]) (rest := []) ⟨hx, hb, hml, hown, hts⟩ (kX4_checkRegion l hlt E (ad 0) (ad 1) (ad 14) (ad 16) (ad 19) (ad 24) rn dy xr (by first | omega | assumption | (intro k h; have := hz k h; omega))) (cwV 1 hts gX4_inCore_X4_checkRegion rfl rfl rfl (by decide +kernel) ⟨Nat.le_of_ble_eq_true rfl, Nat.le_of_ble_eq_true rfl⟩) ⟨fb_X, va_recv hE.1 hP (ci := 4) (q0 := 0) rfl rfl, fun U hU hW => ⟨rfl, (by rw [hU]; exact hP.sub (ws' := [((ad 0), .inr (4, [.ref (ad 1), .ref (ad 14), .ref (ad 16), .ref (ad 19), .ref (ad 24), .int (nI rn), .int (nI dy)]))]) [0] rfl), hE.warm hW, hU9.to hS (fun _ h => h.elim) hU hW⟩⟩ rfl rfl hl.1 rfl (lv_room (Nat.le_of_ble_eq_true rfl)) dX4_inCore_2 ⟨by first | exact Nat.le_of_ble_eq_true rfl | (show _ ≤ 1; omega), by first | exact Nat.le_of_ble_eq_true rfl | (show _ ≤ 6; omega)⟩) hS (fun q _ h => h.elim) (fun q h => h.elim) (fun q _ h => h.elim)
    (fun Ex ce q9 u9 t H1 locs ht hvm hw hB hz1 hk1 hS hce hcv hcl => ?_) (fun u t H1 locs ht hvm hw hB hz1 hk1 hS => ?_)
  · have hP := hP.ro hk1
    obtain ⟨rfl, x_2⟩ := hw
    exact vx_out (fun x9 hx9 => (htb x9 hx9).elim) hlocks hce hcv hcl (fun t9 ht9 hal9 => ⟨1, ⟨by first | (simp only [tReg, eq_self, if_true, i10f, if_false, if_pos x_2]; done) | (try unfold tReg; simp only [eq_self, if_true, i10f, if_false, if_pos x_2]; done) | (try unfold tReg; rfl) | rfl, by decide⟩, hB, hS.F ht9⟩) hS.2.2 (by first | (show _ ≤ 1; omega)) (by first | (show _ ≤ 6; omega))
  · skip
    have hP := hP.ro hk1
    generalize H1 = H at hP hS ⊢
    have c_2 := hw
    have q_2 := hw
    obtain ⟨jr, hjr, rfl⟩ := inF_some q_2 (by omega)
    refine lv_iconst (v := 0) hx hb dX4_inCore_5 (by decide) ?_
    refine lv_istore_n (lv' := [(2, .int 0), (0, .ref (ad 0)), (1, .int (nI jr))]) hx hb dX4_inCore_6 rfl hl (by decide) rfl (fun ls hl => ?_)
    refine lv_iconst (v := 0) hx hb dX4_inCore_7 (by decide) ?_
    refine lv_istore_n (lv' := [(3, .int 0), (2, .int 0), (0, .ref (ad 0)), (1, .int (nI jr))]) hx hb dX4_inCore_8 rfl hl (by decide) rfl (fun ls hl => ?_)
    refine lv_iconst (v := 0) hx hb dX4_inCore_9 (by decide) ?_
    refine lv_istore (lv' := [(4, .int 0), (3, .int 0), (2, .int 0), (0, .ref (ad 0)), (1, .int (nI jr))]) hx hb dX4_inCore_10 hl (by decide) rfl (fun ls hl => ?_)
    have KL12 : ∀ (n12 ik : Nat), ik ≤ cn → cn < n12 + ik → ∀ (H : Heap) (locs : List Loc) (ls : Array Slot), va_P E.1 vwCl (dC E ad S zs rn dy bn cn tn) H → va_S (fun _ : Nat => False) s.heap H locs → lv_has ls 6 [(4, .int (nI ik)), (3, .int (icB S zs jr ik)), (2, .int (nI (icA S zs jr ik))), (0, .ref (ad 0)), (1, .int (nI jr))] → W p l e (headSpec wsX4_inCore ({ frames := 7, cells := 1, slots := 6, locals := 103 } : Room)).room s m [.ref (ad 0), .int (nI jr)].toArray below meth c H locs 1 6 (vx_MQ below (va_Qd (fun (r : UInt64) (_ : Unit) => 0 = tReg (nI jr) rn ∧ r = icR S zs (Int32.toNatClampNeg (nI jr)) cn) (fun _ _ => True) (fun _ : Nat => False)) (vx_X (fun (k : Nat) => k = tReg (nI jr) rn ∧ ¬ k = 0) (fun Ex k _ => Ex = exn ((exm 3 0 0) k)) (fun _ : Nat => False)) [.ref (ad 0), .int (nI jr)].toArray s 1 6 (fun _ : Nat => False)) (F0 m 12 ls []) := by
      intro n12
      induction n12 with
      | zero => intro ik h1 h2; exact absurd h2 (by omega)
      | succ n12 ih12 =>
        intro ik hi12 hn12 H locs ls hP hS hl
        refine lv_iload hx hb dX4_inCore_12 (lv_at hl 0 rfl) ?_
        refine lv_aload_n hx hb dX4_inCore_14 rfl (lv_at hl 3 rfl) ?_
        refine va_get (D := E.1) (ci := 4) (v := .ref (ad 19)) (C := RX4) (T := TX4) (N := 7) hx hb hts inX4 hown hE.1 hP 0 rfl rfl 3 (by decide) f_30 (fun _ h9 => h9) rfl dX4_inCore_15 ?_
        refine va_getN (D := E.1) (ci := 0) (v := .int (nI cn)) (C := RX0) (T := TX0) (N := 5) hx hb hts inX0 hown hE.1 hP 19 rfl rfl 4 (by decide) f_186 (fun _ h9 => h9) rfl dX4_inCore_18 ?_
        refine mz_geN hx hb ik cn (tgt := 99) dX4_inCore_21 (by decide) (by omega) (by omega) (fun c_21 => ?_) (fun c_21 => ?_)
        · have hq99 : ik = cn := by omega
          subst ik
          have hA9 := icA_le S zs jr cn
          refine lv_iload_n hx hb dX4_inCore_99 rfl (lv_at hl 2 rfl) ?_
          refine mz_ifneN hx hb (icA S zs jr cn) (tgt := 107) dX4_inCore_100 (by decide) (by omega) (fun c_100 => ?_) (fun c_100 => ?_)
          · refine lv_iload_n hx hb dX4_inCore_107 rfl (lv_at hl 1 rfl) ?_
            refine lv_i2d hx hb dX4_inCore_108 ?_
            refine lv_iload_n hx hb dX4_inCore_109 rfl (lv_at hl 2 rfl) ?_
            refine lv_i2d hx hb dX4_inCore_110 ?_
            refine lv_ddiv hx hb dX4_inCore_111 (n64_div _ _ (by omega) c_100) ?_
            refine vx_ret ?_
            exact W.dret (v := FP.ddiv (FP.i2d (icB S zs jr cn)) (FP.i2d (nI (icA S zs jr cn)))) hx hb hr (fun t ht hW => ⟨⟨_, (), rfl, ⟨(by first | (simp only [tReg, if_neg c_2, nI_clamp (show jr < 2 ^ 31 by omega), if_neg c_100, eq_self, if_true, i10f, if_false]; done) | (try unfold tReg; simp only [if_neg c_2, nI_clamp (show jr < 2 ^ 31 by omega), if_neg c_100, eq_self, if_true, i10f, if_false]; done) | (try unfold tReg; rfl) | rfl), (by first | (simp only [icR, if_neg c_2, nI_clamp (show jr < 2 ^ 31 by omega), if_neg c_100, eq_self, if_true, i10f, if_false]; done) | (try unfold icR; simp only [if_neg c_2, nI_clamp (show jr < 2 ^ 31 by omega), if_neg c_100, eq_self, if_true, i10f, if_false]; done) | (try unfold icR; rfl) | rfl)⟩, trivial⟩, hS.F ht⟩) hS.2.2 dX4_inCore_112
          · refine lv_dconst1 hx hb dX4_inCore_103 ?_
            refine lv_goto (tgt := 112) hx hb dX4_inCore_104 (by decide) ?_
            refine vx_ret ?_
            exact W.dret (v := FP.dconst1) hx hb hr (fun t ht hW => ⟨⟨_, (), rfl, ⟨(by first | (simp only [tReg, if_neg c_2, nI_clamp (show jr < 2 ^ 31 by omega), if_pos c_100, eq_self, if_true, i10f, if_false]; done) | (try unfold tReg; simp only [if_neg c_2, nI_clamp (show jr < 2 ^ 31 by omega), if_pos c_100, eq_self, if_true, i10f, if_false]; done) | (try unfold tReg; rfl) | rfl), (by first | (simp only [icR, if_neg c_2, nI_clamp (show jr < 2 ^ 31 by omega), if_pos c_100, eq_self, if_true, i10f, if_false]; done) | (try unfold icR; simp only [if_neg c_2, nI_clamp (show jr < 2 ^ 31 by omega), if_pos c_100, eq_self, if_true, i10f, if_false]; done) | (try unfold icR; rfl) | rfl)⟩, trivial⟩, hS.F ht⟩) hS.2.2 dX4_inCore_112
        · have KJ93 : ∀ (xa : Nat), xa = (icA S zs jr (ik + 1)) → ∀ (xb : Int32), xb = (icB S zs jr (ik + 1)) → ∀ (H : Heap) (locs : List Loc) (ls : Array Slot), va_P E.1 vwCl (dC E ad S zs rn dy bn cn tn) H → va_S (fun _ : Nat => False) s.heap H locs → lv_has ls 6 [(2, .int (nI xa)), (3, .int xb), (4, .int (nI ik)), (0, .ref (ad 0)), (1, .int (nI jr))] → W p l e (headSpec wsX4_inCore ({ frames := 7, cells := 1, slots := 6, locals := 103 } : Room)).room s m [.ref (ad 0), .int (nI jr)].toArray below meth c H locs 1 6 (vx_MQ below (va_Qd (fun (r : UInt64) (_ : Unit) => 0 = tReg (nI jr) rn ∧ r = icR S zs (Int32.toNatClampNeg (nI jr)) cn) (fun _ _ => True) (fun _ : Nat => False)) (vx_X (fun (k : Nat) => k = tReg (nI jr) rn ∧ ¬ k = 0) (fun Ex k _ => Ex = exn ((exm 3 0 0) k)) (fun _ : Nat => False)) [.ref (ad 0), .int (nI jr)].toArray s 1 6 (fun _ : Nat => False)) (F0 m 93 ls []) := by
            intro xa exa xb exb H locs ls hP hS hl
            subst exa
            subst exb
            refine mz_iinc (k := 2) (lv' := [(4, .int (nI (ik + 1))), (2, .int (nI (icA S zs jr (ik + 1)))), (3, .int (icB S zs jr (ik + 1))), (0, .ref (ad 0)), (1, .int (nI jr))]) hx hb ik 1 dX4_inCore_93 hl rfl (by decide) rfl (fun ls hl => ?_)
            refine lv_goto (tgt := 12) hx hb dX4_inCore_96 (by decide) ?_
            exact ih12 (ik + 1) (by omega) (by omega) _ _ _ hP hS (lv_sub hl [0, 2, 1, 3, 4] rfl)
          refine lv_aload_n hx hb dX4_inCore_24 rfl (lv_at hl 3 rfl) ?_
          refine va_get (D := E.1) (ci := 4) (v := .ref (ad 19)) (C := RX4) (T := TX4) (N := 7) hx hb hts inX4 hown hE.1 hP 0 rfl rfl 3 (by decide) f_30 (fun _ h9 => h9) rfl dX4_inCore_25 ?_
          refine va_getN (D := E.1) (ci := 0) (v := .ref (ad 20)) (C := RX0) (T := TX0) (N := 5) hx hb hts inX0 hown hE.1 hP 19 rfl rfl 0 (by decide) f_187 (fun _ h9 => h9) rfl dX4_inCore_28 ?_
          refine lv_iload hx hb dX4_inCore_31 (lv_at hl 0 rfl) ?_
          refine mz_ild hx hb hE.1 hP 20 0 (f := S 20) (n := 200) rfl rfl ik (by omega) (by omega) dX4_inCore_33 ?_
          refine lv_istore (lv' := [(5, .int ((S 20) ik)), (4, .int (nI ik)), (3, .int (icB S zs jr ik)), (2, .int (nI (icA S zs jr ik))), (0, .ref (ad 0)), (1, .int (nI jr))]) hx hb dX4_inCore_34 hl (by decide) rfl (fun ls hl => ?_)
          refine lv_aload_n hx hb dX4_inCore_36 rfl (lv_at hl 4 rfl) ?_
          refine va_get (D := E.1) (ci := 4) (v := .ref (ad 19)) (C := RX4) (T := TX4) (N := 7) hx hb hts inX4 hown hE.1 hP 0 rfl rfl 3 (by decide) f_30 (fun _ h9 => h9) rfl dX4_inCore_37 ?_
          refine va_getN (D := E.1) (ci := 0) (v := .ref (ad 21)) (C := RX0) (T := TX0) (N := 5) hx hb hts inX0 hown hE.1 hP 19 rfl rfl 1 (by decide) f_191 (fun _ h9 => h9) rfl dX4_inCore_40 ?_
          refine lv_iload hx hb dX4_inCore_43 (lv_at hl 1 rfl) ?_
          refine mz_ild hx hb hE.1 hP 21 0 (f := S 21) (n := 200) rfl rfl ik (by omega) (by omega) dX4_inCore_45 ?_
          refine lv_iload_n hx hb dX4_inCore_46 rfl (lv_at hl 5 rfl) ?_
          refine lv_icmp_ne (tgt := 93) hx hb dX4_inCore_47 (by decide) (fun c_47 => ?_) (fun c_47 => ?_)
          · exact KJ93 (icA S zs jr ik) (by first | exact (show (if S 21 ik = nI jr then (if tellsF zs (S 20 ik) (nI jr) = 0 then _ else _) else _) = _ from if_neg c_47).symm | (show _ = (if S 21 ik = nI jr then (if tellsF zs (S 20 ik) (nI jr) = 0 then _ else _) else _); first | (rw [if_pos c_47, if_pos c_60]; done) | (rw [if_pos c_47, if_neg c_60]; done) | (rw [if_pos c_47, if_neg c_60, edd, nI_clamp (show jd < 2 ^ 31 by omega)]; done))) (icB S zs jr ik) (by first | exact (show (if S 21 ik = nI jr then (if tellsF zs (S 20 ik) (nI jr) = 0 then _ else _) else _) = _ from if_neg c_47).symm | (show _ = (if S 21 ik = nI jr then (if tellsF zs (S 20 ik) (nI jr) = 0 then _ else _) else _); first | (rw [if_pos c_47, if_pos c_60]; done) | (rw [if_pos c_47, if_neg c_60]; done) | (rw [if_pos c_47, if_neg c_60, edd, nI_clamp (show jd < 2 ^ 31 by omega)]; done))) _ _ _ hP hS (lv_sub hl [3, 2, 1, 4, 5] rfl)
          · refine lv_aload_n hx hb dX4_inCore_50 rfl (lv_at hl 4 rfl) ?_
            refine va_get (D := E.1) (ci := 4) (v := .ref (ad 16)) (C := RX4) (T := TX4) (N := 7) hx hb hts inX4 hown hE.1 hP 0 rfl rfl 2 (by decide) f_23 (fun _ h9 => h9) rfl dX4_inCore_51 ?_
            refine lv_iload hx hb dX4_inCore_54 (lv_at hl 0 rfl) ?_
            refine lv_iload_n hx hb dX4_inCore_56 rfl (lv_at hl 5 rfl) ?_
            refine va_calli (va_runV (As := [.int ((S 20) ik), .int (nI jr)]) (rest := []) ⟨hx, hb, hml, hown, hts⟩ (kX1_tells l E (ad 16) (ad 17) (ad 18) zs (S 18) bn ((S 20) ik) (nI jr) (by first | omega | assumption | (intro k h; have := hz k h; omega))) (cwV 2 hts gX4_inCore_X1_tells rfl rfl rfl (by decide +kernel) ⟨Nat.le_of_ble_eq_true rfl, Nat.le_of_ble_eq_true rfl⟩) ⟨fb_R, va_recv hE.1 hP (ci := 1) (q0 := 16) rfl rfl, fun U hU hW => ⟨rfl, (by rw [hU]; exact hP.sub (ws' := [((ad 16), .inr (1, [.ref (ad 17), .ref (ad 18), .int (nI bn)])), ((ad 17), .inl (E.2.1 0, 61, .inl (nF zs))), ((ad 18), .inl (E.2.1 0, 1098, .inl (S 18)))]) [16, 17, 18] rfl), hE.warm hW⟩⟩ rfl rfl hl.1 rfl (lv_room (Nat.le_of_ble_eq_true rfl)) dX4_inCore_57 ⟨by first | exact Nat.le_of_ble_eq_true rfl | (show _ ≤ 1; omega), by first | exact Nat.le_of_ble_eq_true rfl | (show _ ≤ 6; omega)⟩) hS (fun q _ h => h.elim) (fun q h => h.elim) (fun r57_1 u t H1 locs ht hvm hw hB hz1 hk1 hS => ?_)
            have hP := hP.ro hk1
            generalize H1 = H at hP hS ⊢
            subst hw
            refine lv_if_eq (tgt := 93) hx hb dX4_inCore_60 (by decide) (fun c_60 => ?_) (fun c_60 => ?_)
            · exact KJ93 (icA S zs jr ik) (by first | exact (show (if S 21 ik = nI jr then (if tellsF zs (S 20 ik) (nI jr) = 0 then _ else _) else _) = _ from if_neg c_47).symm | (show _ = (if S 21 ik = nI jr then (if tellsF zs (S 20 ik) (nI jr) = 0 then _ else _) else _); first | (rw [if_pos c_47, if_pos c_60]; done) | (rw [if_pos c_47, if_neg c_60]; done) | (rw [if_pos c_47, if_neg c_60, edd, nI_clamp (show jd < 2 ^ 31 by omega)]; done))) (icB S zs jr ik) (by first | exact (show (if S 21 ik = nI jr then (if tellsF zs (S 20 ik) (nI jr) = 0 then _ else _) else _) = _ from if_neg c_47).symm | (show _ = (if S 21 ik = nI jr then (if tellsF zs (S 20 ik) (nI jr) = 0 then _ else _) else _); first | (rw [if_pos c_47, if_pos c_60]; done) | (rw [if_pos c_47, if_neg c_60]; done) | (rw [if_pos c_47, if_neg c_60, edd, nI_clamp (show jd < 2 ^ 31 by omega)]; done))) _ _ _ hP hS (lv_sub hl [3, 2, 1, 4, 5] rfl)
            · obtain ⟨jd, hjd, hjr9, edd⟩ := tells_ok1 hz (by omega) c_60
              have hl : lv_has ls 6 [(5, .int (nI jd)), (4, .int (nI ik)), (3, .int (icB S zs jr ik)), (2, .int (nI (icA S zs jr ik))), (0, .ref (ad 0)), (1, .int (nI jr))] := by rw [edd] at hl; exact hl
              refine mz_iinc (k := 3) (lv' := [(2, .int (nI ((icA S zs jr ik) + 1))), (5, .int (nI jd)), (4, .int (nI ik)), (3, .int (icB S zs jr ik)), (0, .ref (ad 0)), (1, .int (nI jr))]) hx hb (icA S zs jr ik) 1 dX4_inCore_63 hl rfl (by decide) rfl (fun ls hl => ?_)
              refine lv_iload_n hx hb dX4_inCore_66 rfl (lv_at hl 3 rfl) ?_
              refine lv_aload_n hx hb dX4_inCore_67 rfl (lv_at hl 4 rfl) ?_
              refine va_get (D := E.1) (ci := 4) (v := .ref (ad 16)) (C := RX4) (T := TX4) (N := 7) hx hb hts inX4 hown hE.1 hP 0 rfl rfl 2 (by decide) f_23 (fun _ h9 => h9) rfl dX4_inCore_68 ?_
              refine lv_iload hx hb dX4_inCore_71 (lv_at hl 1 rfl) ?_
              refine lv_iload_n hx hb dX4_inCore_73 rfl (lv_at hl 5 rfl) ?_
              refine lv_iconst (v := 1) hx hb dX4_inCore_74 (by decide) ?_
              refine va_calli (va_runV (As := [.int (nI jd), .int (nI jr), .int 1]) (rest := [.int (icB S zs jr ik)]) ⟨hx, hb, hml, hown, hts⟩ (kX1_read l E (ad 16) (ad 17) (ad 18) zs (S 18) bn jd jr 1 (by first | omega | assumption | (intro k h; have := hz k h; omega)) (by first | omega | assumption | (intro k h; have := hz k h; omega)) (by first | omega | assumption | (intro k h; have := hz k h; omega))) (cwV 3 hts gX4_inCore_X1_read rfl rfl rfl (by decide +kernel) ⟨Nat.le_of_ble_eq_true rfl, Nat.le_of_ble_eq_true rfl⟩) ⟨fb_R, va_recv hE.1 hP (ci := 1) (q0 := 16) rfl rfl, fun U hU hW => ⟨rfl, (by rw [hU]; exact hP.sub (ws' := [((ad 16), .inr (1, [.ref (ad 17), .ref (ad 18), .int (nI bn)])), ((ad 17), .inl (E.2.1 0, 61, .inl (nF zs))), ((ad 18), .inl (E.2.1 0, 1098, .inl (S 18)))]) [16, 17, 18] rfl), hE.warm hW⟩⟩ rfl rfl hl.1 rfl (lv_room (Nat.le_of_ble_eq_true rfl)) dX4_inCore_75 ⟨by first | exact Nat.le_of_ble_eq_true rfl | (show _ ≤ 1; omega), by first | exact Nat.le_of_ble_eq_true rfl | (show _ ≤ 6; omega)⟩) hS (fun q _ h => h.elim) (fun q h => h.elim) (fun r75_2 u t H1 locs ht hvm hw hB hz1 hk1 hS => ?_)
              have hP := hP.ro hk1
              generalize H1 = H at hP hS ⊢
              subst hw
              refine lv_aload_n hx hb dX4_inCore_78 rfl (lv_at hl 4 rfl) ?_
              refine va_get (D := E.1) (ci := 4) (v := .ref (ad 19)) (C := RX4) (T := TX4) (N := 7) hx hb hts inX4 hown hE.1 hP 0 rfl rfl 3 (by decide) f_30 (fun _ h9 => h9) rfl dX4_inCore_79 ?_
              refine va_getN (D := E.1) (ci := 0) (v := .ref (ad 22)) (C := RX0) (T := TX0) (N := 5) hx hb hts inX0 hown hE.1 hP 19 rfl rfl 2 (by decide) f_194 (fun _ h9 => h9) rfl dX4_inCore_82 ?_
              refine lv_iload hx hb dX4_inCore_85 (lv_at hl 2 rfl) ?_
              refine mz_ild hx hb hE.1 hP 22 0 (f := S 22) (n := 200) rfl rfl ik (by omega) (by omega) dX4_inCore_87 ?_
              refine va_calli (va_runS (As := [.int ((S 18) ((jd * 6 + jr) * 3 + 1)), .int ((S 22) ik)]) (rest := [.int (icB S zs jr ik)]) ⟨hx, hb, hml, hown, hts⟩ (kX4_bit l E ((S 18) ((jd * 6 + jr) * 3 + 1)) ((S 22) ik)) (va_cwS 2 hts gX4_inCore_X4_bit rfl rfl rfl (by decide +kernel) ⟨Nat.le_of_ble_eq_true rfl, Nat.le_of_ble_eq_true rfl⟩) ⟨fb_0, fun U hU hW => ⟨rfl, trivial⟩⟩ rfl rfl hl.1 rfl (lv_room (Nat.le_of_ble_eq_true rfl)) dX4_inCore_88 ⟨by first | exact Nat.le_of_ble_eq_true rfl | (show _ ≤ 1; omega), by first | exact Nat.le_of_ble_eq_true rfl | (show _ ≤ 6; omega)⟩) hS (fun q _ h => h.elim) (fun q h => h.elim) (fun r88_3 u t H1 locs ht hvm hw hB hz1 hk1 hS => ?_)
              have hP := hP.ro hk1
              generalize H1 = H at hP hS ⊢
              subst hw
              refine lv_iadd hx hb dX4_inCore_91 ?_
              refine lv_istore_n (lv' := [(3, .int ((icB S zs jr ik) + (bitF ((S 18) ((jd * 6 + jr) * 3 + 1)) ((S 22) ik)))), (2, .int (nI ((icA S zs jr ik) + 1))), (5, .int (nI jd)), (4, .int (nI ik)), (0, .ref (ad 0)), (1, .int (nI jr))]) hx hb dX4_inCore_92 rfl hl (by decide) rfl (fun ls hl => ?_)
              exact KJ93 ((icA S zs jr ik) + 1) (by first | exact (show (if S 21 ik = nI jr then (if tellsF zs (S 20 ik) (nI jr) = 0 then _ else _) else _) = _ from if_neg c_47).symm | (show _ = (if S 21 ik = nI jr then (if tellsF zs (S 20 ik) (nI jr) = 0 then _ else _) else _); first | (rw [if_pos c_47, if_pos c_60]; done) | (rw [if_pos c_47, if_neg c_60]; done) | (rw [if_pos c_47, if_neg c_60, edd, nI_clamp (show jd < 2 ^ 31 by omega)]; done))) ((icB S zs jr ik) + (bitF ((S 18) ((jd * 6 + jr) * 3 + 1)) ((S 22) ik))) (by first | exact (show (if S 21 ik = nI jr then (if tellsF zs (S 20 ik) (nI jr) = 0 then _ else _) else _) = _ from if_neg c_47).symm | (show _ = (if S 21 ik = nI jr then (if tellsF zs (S 20 ik) (nI jr) = 0 then _ else _) else _); first | (rw [if_pos c_47, if_pos c_60]; done) | (rw [if_pos c_47, if_neg c_60]; done) | (rw [if_pos c_47, if_neg c_60, edd, nI_clamp (show jd < 2 ^ 31 by omega)]; done))) _ _ _ hP hS (lv_sub hl [1, 0, 3, 4, 5] rfl)
    exact KL12 (cn + 1 - 0) 0 (by omega) (by omega) _ _ _ hP hS (lv_sub hl [0, 1, 2, 3, 4] rfl)
