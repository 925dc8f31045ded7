theorem ic_eq {S : Nat → Nat → Int32} {AV : Nat → Int32} {zs : Nat → Nat} (hz : ∀ k, k ≤ 60 → zs k ≤ 6) {cn : Nat} (hA : ∀ k, k < cn → S 20 k = AV (4 * k) ∧ S 21 k = AV (4 * k + 1) ∧ S 22 k = AV (4 * k + 2) ∧ ∃ d, d ≤ 60 ∧ AV (4 * k) = nI d) {r : Nat} (hr : r < 6) : ∀ n : Nat, n ≤ cn → icA S zs r n = jcA (S 18) AV zs r n ∧ icB S zs r n = jcB (S 18) AV zs r n
  | 0, _ => ⟨rfl, rfl⟩
  | n + 1, hn => by
    obtain ⟨i1, i2⟩ := ic_eq hz hA hr n (by omega)
    obtain ⟨a0, a1, a2, d, hd, ed⟩ := hA n (by omega)
    have hzd := hz d hd
    have et : tellsF zs (nI d) (nI r) = tellsN zs d r := tells_nat hd (by omega) (by omega)
    show (if S 21 n = nI r then (if tellsF zs (S 20 n) (nI r) = 0 then icA S zs r n else icA S zs r n + 1) else icA S zs r n) = (if AV (4 * n + 1) = nI r then (if r < zs (AV (4 * n)).toNatClampNeg then jcA (S 18) AV zs r n + 1 else jcA (S 18) AV zs r n) else jcA (S 18) AV zs r n) ∧
      (if S 21 n = nI r then (if tellsF zs (S 20 n) (nI r) = 0 then icB S zs r n else icB S zs r n + bitF (S 18 (((S 20 n).toNatClampNeg * 6 + r) * 3 + 1)) (S 22 n)) else icB S zs r n) = (if AV (4 * n + 1) = nI r then (if r < zs (AV (4 * n)).toNatClampNeg then jcB (S 18) AV zs r n + bitF (S 18 ((6 * (AV (4 * n)).toNatClampNeg + r) * 3 + 1)) (AV (4 * n + 2)) else jcB (S 18) AV zs r n) else jcB (S 18) AV zs r n)
    rw [a0, a1, a2, ed, nI_clamp (show d < 2 ^ 31 by omega), et, i1, i2, Nat.mul_comm d 6]
    by_cases c : AV (4 * n + 1) = nI r
    · rw [if_pos c, if_pos c, if_pos c, if_pos c]
      by_cases c2 : r < zs d
      · have c3 : ¬ tellsN zs d r = 0 := by unfold tellsN; rw [if_pos c2]; decide
        rw [if_neg c3, if_neg c3, if_pos c2, if_pos c2]; exact ⟨rfl, rfl⟩
      · have c3 : tellsN zs d r = 0 := by unfold tellsN; rw [if_neg c2]
        rw [if_pos c3, if_pos c3, if_neg c2, if_neg c2]; exact ⟨rfl, rfl⟩
    · rw [if_neg c, if_neg c, if_neg c, if_neg c]; exact ⟨rfl, rfl⟩
/-! how the desk's state and the reference's hang together; what each call keeps -/
def RK (S : Nat → Nat → Int32) (zs : Nat → Nat) (rn dy bn cn tn : Nat) (NU WE AT BU AV LS LT : Nat → Int32) : Prop :=
  (rn ≤ 6 ∧ dy ≤ 60 ∧ cn ≤ 200 ∧ tn ≤ 20) ∧
  (∀ k, zs k ≤ rn) ∧ (∀ k, dy < k → zs k = 0) ∧
  (∀ r, r < 6 → relR (S (3 + 2 * r)) NU r) ∧
  (∀ r, r < 6 → S (2 + 2 * r) 1 = AT r ∧ S (2 + 2 * r) 2 = WE (4 * r) ∧ S (2 + 2 * r) 3 = WE (4 * r + 1) ∧ S (2 + 2 * r) 4 = WE (4 * r + 2) ∧ S (2 + 2 * r) 5 = WE (4 * r + 3) ∧ wok (WE (4 * r)) (WE (4 * r + 1)) (WE (4 * r + 2)) (WE (4 * r + 3))) ∧
  (∀ r, rn ≤ r → r < 6 → AT r = 0 ∧ WE (4 * r) = 0 ∧ WE (4 * r + 1) = 0 ∧ WE (4 * r + 2) = 0 ∧ WE (4 * r + 3) = -5) ∧
  S 18 = BU ∧ nbM zs 61 = nI bn ∧
  (∀ k, k < cn → S 20 k = AV (4 * k) ∧ S 21 k = AV (4 * k + 1) ∧ S 22 k = AV (4 * k + 2) ∧ ∃ d, d ≤ 60 ∧ AV (4 * k) = nI d) ∧
  (∀ d r, d ≤ 60 → r < 6 → S 23 (d * 6 + r) = acM AV d r cn) ∧
  (S 25 = LS ∧ S 26 = LT) ∧
  (∀ d r, d ≤ 60 → r < zs d → 1 ≤ lvS S d r ∧ lvS S d r ≤ 5 ∧ S 18 ((d * 6 + r) * 3 + 0) = nI (lvS S d r))
theorem nb_0 : ∀ n : Nat, nbM (fun _ => 0) n = 0
  | 0 => rfl
  | n + 1 => by
    show nbM (fun _ => 0) n + (if 0 < 0 then 1 else 0) = 0
    rw [nb_0 n]; rfl
section RKS
variable {S : Nat → Nat → Int32} {zs : Nat → Nat} {rn dy bn cn tn : Nat} {NU WE AT BU AV LS LT : Nat → Int32}
theorem RK.hz (h : RK S zs rn dy bn cn tn NU WE AT BU AV LS LT) : ∀ k, k ≤ 60 → zs k ≤ 6 := fun k _ => Nat.le_trans (h.2.1 k) h.1.1
theorem RK.rel (h : RK S zs rn dy bn cn tn NU WE AT BU AV LS LT) : ∀ r, r < 6 → rel (S (3 + 2 * r)) NU r := fun r hr => (h.2.2.2.1 r hr).1
theorem RK.hlB (h : RK S zs rn dy bn cn tn NU WE AT BU AV LS LT) : ∀ d r, d ≤ 60 → r < zs d → 1 ≤ lvB BU d r ∧ lvB BU d r ≤ 5 ∧ BU ((6 * d + r) * 3) = nI (lvB BU d r) := by
  intro d r hd hr
  have := h.2.2.2.2.2.2.2.2.2.2.2 d r hd hr
  have e := h.2.2.2.2.2.2.1
  unfold lvS at this
  unfold lvB
  rw [← e, Nat.mul_comm 6 d]
  exact this
theorem RK_0 : RK S0 (fun _ => 0) 0 0 0 0 0 (fun _ => 0) (caR (fun _ => 0) 6) (caT (fun _ => 0) 6) (fun _ => 0) (fun _ => 0) (fun _ => 0) (fun _ => 0) := by
  have hca := fun r hr => @ca_at (fun _ => 0) (fun _ => 0) r hr
  refine ⟨⟨by omega, by omega, by omega, by omega⟩, fun _ => Nat.le_refl 0, fun _ _ => rfl, fun r hr => ?_, fun r hr => ?_, fun r _ hr => ?_, rfl, nb_0 61, fun k hk => absurd hk (by omega), fun d r _ _ => rfl, ⟨rfl, rfl⟩, fun d r _ hr => absurd hr (Nat.not_lt_zero r)⟩
  · rcases (show r = 0 ∨ r = 1 ∨ r = 2 ∨ r = 3 ∨ r = 4 ∨ r = 5 by omega) with rfl | rfl | rfl | rfl | rfl | rfl <;> exact ⟨fun _ _ => rfl, fun _ _ => ok0 _⟩
  · obtain ⟨e0, e1, e2, e3, e4⟩ := hca r hr
    rw [e0, e1, e2, e3, e4]
    rcases (show r = 0 ∨ r = 1 ∨ r = 2 ∨ r = 3 ∨ r = 4 ∨ r = 5 by omega) with rfl | rfl | rfl | rfl | rfl | rfl <;> exact ⟨rfl, rfl, rfl, rfl, rfl, wok_calm⟩
  · obtain ⟨e0, e1, e2, e3, e4⟩ := hca r hr
    exact ⟨e4, e0, e1, e2, e3⟩
theorem c01 {c : Prop} [Decidable c] {a b : Nat} (h : (if c then a + 1 else b) = 0) : ¬ c ∧ b = 0 := by
  by_cases q : c
  · rw [if_pos q] at h; omega
  · rw [if_neg q] at h; exact ⟨q, h⟩
theorem i_reg {v : Int32} {n : Nat} (h : ¬ inF v n = 0) (hn : n ≤ 6) : ∃ j, j < n ∧ v = nI j := inF_some h (by omega)
theorem i_to {v hi : Int32} (n : Nat) (hh : hi = nI n - 1) (hn : n < 2147483648) (h : ¬ isInF v 0 hi = 0) : ∃ j, j < n ∧ v = nI j := by
  rw [isIn_n n hh hn] at h
  exact inF_some h hn
theorem op_addRegion (h : RK S zs rn dy bn cn tn NU WE AT BU AV LS LT) (hc : 0 = tAdd rn) : RK S zs (rn + 1) dy bn cn tn NU WE AT BU AV LS LT := by
  obtain ⟨h0, hz, hzd, hN, hW, hD, hB⟩ := h
  have h6 : ¬ rn = 6 := (c01 (a := 0) hc.symm).1
  exact ⟨⟨by omega, h0.2⟩, fun k => Nat.le_trans (hz k) (by omega), hzd, hN, hW, fun r hr => hD r (by omega), hB⟩
theorem op_weather (h : RK S zs rn dy bn cn tn NU WE AT BU AV LS LT) (xr xn xw xf xt : Int32) (hc : 0 = tWea xr xn xw xf xt rn) :
    (if (S (2 + 2 * xr.toNatClampNeg)) 1 = 0 then (1 : Int32) else 0) = (if AT xr.toNatClampNeg = 0 then 1 else 0) ∧
    RK (va_up S (2 + 2 * xr.toNatClampNeg) (fF 1 xn xw xf xt)) zs rn dy bn cn tn NU (upd (upd (upd (upd WE (4 * xr.toNatClampNeg) xn) (4 * xr.toNatClampNeg + 1) xw) (4 * xr.toNatClampNeg + 2) xf) (4 * xr.toNatClampNeg + 3) xt) (upd AT xr.toNatClampNeg 1) BU AV LS LT := by
  obtain ⟨⟨h6, h60, h200, h20⟩, hz, hzd, hN, hW, hD, hB, hn, hA, hV, hT, hL⟩ := h
  obtain ⟨c1, c2⟩ := c01 (a := 0) hc.symm
  obtain ⟨c2, -⟩ := c01 (a := 1) (b := 0) c2
  obtain ⟨j, hj, rfl⟩ := i_reg c1 h6
  rw [nI_clamp (show j < 2 ^ 31 by omega)]
  refine ⟨by rw [(hW j (by omega)).1], ⟨h6, h60, h200, h20⟩, hz, hzd, fun r hr => ?_, fun r hr => ?_, fun r hr hr6 => ?_, ?_, hn, fun k hk => ?_, fun d r hd hr => ?_, ⟨?_, ?_⟩, fun d r hd hr => ?_⟩
  · rw [va_up_ne _ _ (by omega)]; exact hN r hr
  · by_cases e : r = j
    · subst e
      rw [va_up_self, upd_at, upd_ne (show 4 * r ≠ 4 * r + 3 by omega), upd_ne (show 4 * r ≠ 4 * r + 2 by omega), upd_ne (show 4 * r ≠ 4 * r + 1 by omega), upd_at, upd_ne (show 4 * r + 1 ≠ 4 * r + 3 by omega), upd_ne (show 4 * r + 1 ≠ 4 * r + 2 by omega), upd_at, upd_ne (show 4 * r + 2 ≠ 4 * r + 3 by omega), upd_at, upd_at]
      exact ⟨rfl, rfl, rfl, rfl, rfl, wok_of c2⟩
    · rw [va_up_ne _ _ (by omega), upd_ne (show r ≠ j from e)]
      rw [upd_ne (show 4 * r ≠ 4 * j + 3 by omega), upd_ne (show 4 * r ≠ 4 * j + 2 by omega), upd_ne (show 4 * r ≠ 4 * j + 1 by omega), upd_ne (show 4 * r ≠ 4 * j by omega)]
      rw [upd_ne (show 4 * r + 1 ≠ 4 * j + 3 by omega), upd_ne (show 4 * r + 1 ≠ 4 * j + 2 by omega), upd_ne (show 4 * r + 1 ≠ 4 * j + 1 by omega), upd_ne (show 4 * r + 1 ≠ 4 * j by omega)]
      rw [upd_ne (show 4 * r + 2 ≠ 4 * j + 3 by omega), upd_ne (show 4 * r + 2 ≠ 4 * j + 2 by omega), upd_ne (show 4 * r + 2 ≠ 4 * j + 1 by omega), upd_ne (show 4 * r + 2 ≠ 4 * j by omega)]
      rw [upd_ne (show 4 * r + 3 ≠ 4 * j + 3 by omega), upd_ne (show 4 * r + 3 ≠ 4 * j + 2 by omega), upd_ne (show 4 * r + 3 ≠ 4 * j + 1 by omega), upd_ne (show 4 * r + 3 ≠ 4 * j by omega)]
      exact hW r hr
  · have e : r ≠ j := by omega
    rw [upd_ne e]
    rw [upd_ne (show 4 * r ≠ 4 * j + 3 by omega), upd_ne (show 4 * r ≠ 4 * j + 2 by omega), upd_ne (show 4 * r ≠ 4 * j + 1 by omega), upd_ne (show 4 * r ≠ 4 * j by omega)]
    rw [upd_ne (show 4 * r + 1 ≠ 4 * j + 3 by omega), upd_ne (show 4 * r + 1 ≠ 4 * j + 2 by omega), upd_ne (show 4 * r + 1 ≠ 4 * j + 1 by omega), upd_ne (show 4 * r + 1 ≠ 4 * j by omega)]
    rw [upd_ne (show 4 * r + 2 ≠ 4 * j + 3 by omega), upd_ne (show 4 * r + 2 ≠ 4 * j + 2 by omega), upd_ne (show 4 * r + 2 ≠ 4 * j + 1 by omega), upd_ne (show 4 * r + 2 ≠ 4 * j by omega)]
    rw [upd_ne (show 4 * r + 3 ≠ 4 * j + 3 by omega), upd_ne (show 4 * r + 3 ≠ 4 * j + 2 by omega), upd_ne (show 4 * r + 3 ≠ 4 * j + 1 by omega), upd_ne (show 4 * r + 3 ≠ 4 * j by omega)]
    exact hD r hr hr6
  · rw [va_up_ne _ _ (by omega)]; exact hB
  · rw [va_up_ne _ _ (by omega), va_up_ne _ _ (by omega), va_up_ne _ _ (by omega)]; exact hA k hk
  · rw [va_up_ne _ _ (by omega)]; exact hV d r hd hr
  · rw [va_up_ne _ _ (by omega)]; exact hT.1
  · rw [va_up_ne _ _ (by omega)]; exact hT.2
  · have := hL d r hd hr
    unfold lvS at this ⊢
    rw [va_up_ne _ _ (by omega)]; exact this
theorem op_end (h : RK S zs rn dy bn cn tn NU WE AT BU AV LS LT) (hc : 0 = tEnd dy) : RK (dES S rn) zs rn (dy + 1) bn cn tn (enM NU WE rn) (caR WE 6) (caT AT 6) BU AV LS LT := by
  obtain ⟨⟨h6, h60, h200, h20⟩, hz, hzd, hN, hW, hD, hB, hn, hA, hV, hT, hL⟩ := h
  have c1 := (c01 (a := 0) hc.symm).1
  obtain ⟨e1, e2, e3⟩ := en_eq hN h6 (fun r hr => (hW r (by omega)).2) rn (Nat.le_refl _)
  have hca := fun r hr => @ca_at WE AT r hr
  refine ⟨⟨h6, by omega, h200, h20⟩, hz, fun k hk => hzd k (by omega), e1, fun r hr => ?_, fun r _ hr => ?_, ?_, hn, fun k hk => ?_, fun d r hd hr => ?_, ⟨?_, ?_⟩, fun d r hd hr => ?_⟩
  · obtain ⟨a0, a1, a2, a3, a4⟩ := hca r hr
    rw [e2 r hr, a0, a1, a2, a3, a4]
    by_cases c : r < rn
    · rw [if_pos c]; exact ⟨rfl, rfl, rfl, rfl, rfl, wok_calm⟩
    · rw [if_neg c]
      obtain ⟨b0, b1, b2, b3, b4, _⟩ := hW r hr
      obtain ⟨d0, d1, d2, d3, d4⟩ := hD r (by omega) hr
      exact ⟨b0.trans d0, b1.trans d1, b2.trans d2, b3.trans d3, b4.trans d4, wok_calm⟩
  · obtain ⟨a0, a1, a2, a3, a4⟩ := hca r hr
    exact ⟨a4, a0, a1, a2, a3⟩
  · rw [e3 18 (by omega)]; exact hB
  · rw [e3 20 (by omega), e3 21 (by omega), e3 22 (by omega)]; exact hA k hk
  · rw [e3 23 (by omega)]; exact hV d r hd hr
  · rw [e3 25 (by omega)]; exact hT.1
  · rw [e3 26 (by omega)]; exact hT.2
  · have := hL d r hd hr
    unfold lvS at this ⊢
    rw [e3 18 (by omega)]; exact this
theorem op_sector (h : RK S zs rn dy bn cn tn NU WE AT BU AV LS LT) (xr xs xw : Int32) (hc : 0 = tSec xr xs xw rn) :
    S (3 + 2 * xr.toNatClampNeg) (xs.toNatClampNeg * 5 + xw.toNatClampNeg) = NU ((12 * xr.toNatClampNeg + xs.toNatClampNeg) * 5 + xw.toNatClampNeg) := by
  obtain ⟨c1, c2⟩ := c01 (a := 0) hc.symm
  obtain ⟨c2, -⟩ := c01 (a := 0) (b := 0) c2
  have h6 := h.1.1
  obtain ⟨j, k, hj, hk, rfl, rfl⟩ := secF_some c1 (by omega)
  obtain ⟨i, hi, rfl⟩ := i_to 5 (by decide) (by decide) c2
  rw [nI_clamp (show j < 2 ^ 31 by omega), nI_clamp (show k < 2 ^ 31 by omega), nI_clamp (show i < 2 ^ 31 by omega), h.rel j (by omega) (k * 5 + i) (by omega), show 60 * j + (k * 5 + i) = (12 * j + k) * 5 + i by omega]
theorem op_set (h : RK S zs rn dy bn cn tn NU WE AT BU AV LS LT) (xr xs xw xv : Int32) (hc : 0 = tSet xr xs xw xv rn) :
    S (3 + 2 * xr.toNatClampNeg) (xs.toNatClampNeg * 5 + xw.toNatClampNeg) = NU ((12 * xr.toNatClampNeg + xs.toNatClampNeg) * 5 + xw.toNatClampNeg) ∧
    RK (va_up S (3 + 2 * xr.toNatClampNeg) (pN (S (3 + 2 * xr.toNatClampNeg)) xs.toNatClampNeg xw.toNatClampNeg xv)) zs rn dy bn cn tn (upd NU ((12 * xr.toNatClampNeg + xs.toNatClampNeg) * 5 + xw.toNatClampNeg) xv) WE AT BU AV LS LT := by
  obtain ⟨c1, c2⟩ := c01 (a := 0) hc.symm
  obtain ⟨c2, c3⟩ := c01 (a := 0) c2
  obtain ⟨c3, -⟩ := c01 (a := 1) (b := 0) c3
  refine ⟨op_sector h xr xs xw (by unfold tSec; rw [if_neg c1, if_neg c2]), ?_⟩
  obtain ⟨⟨h6, h60, h200, h20⟩, hz, hzd, hN, hW, hD, hB, hn, hA, hV, hT, hL⟩ := h
  obtain ⟨j, k, hj, hk, rfl, rfl⟩ := secF_some c1 (by omega)
  obtain ⟨i, hi, rfl⟩ := i_to 5 (by decide) (by decide) c2
  rw [nI_clamp (show j < 2 ^ 31 by omega), nI_clamp (show k < 2 ^ 31 by omega), nI_clamp (show i < 2 ^ 31 by omega)]
  have hg := gB_lt i
  rw [gr_eq hi] at c3
  have hv : okv xv (gB i) := isIn_okv (gB i) (nI_toInt (by omega)) c3
  have hm : mn xv (gr (nI i)) = xv := by
    obtain ⟨n, hn9, rfl⟩ := hv
    rw [gr_eq hi]
    rcases mnT (nI n) (nI (gB i)) with ⟨q, e⟩ | ⟨q, e⟩
    · rw [nI_toInt (show n < 2 ^ 31 by omega), nI_toInt (show gB i < 2 ^ 31 by omega)] at q; omega
    · exact e
  have hp : pN (S (3 + 2 * j)) k i xv = upd (S (3 + 2 * j)) (k * 5 + i) xv := by unfold pN; rw [hm]
  rw [hp]
  refine ⟨⟨h6, h60, h200, h20⟩, hz, hzd, fun r hr => ?_, fun r hr => ?_, hD, ?_, hn, fun k hk => ?_, fun d r hd hr => ?_, ⟨?_, ?_⟩, fun d r hd hr => ?_⟩
  · obtain ⟨r1, r2⟩ := hN r hr
    by_cases e : r = j
    · subst e
      rw [va_up_self]
      refine ⟨fun q hq => ?_, fun q hq => ?_⟩
      · by_cases e2 : q = k * 5 + i
        · rw [e2, upd_at, show 60 * r + (k * 5 + i) = (12 * r + k) * 5 + i by omega, upd_at]
        · rw [upd_ne e2, upd_ne (by omega)]; exact r1 q hq
      · by_cases e2 : q = k * 5 + i
        · rw [e2, upd_at, show (k * 5 + i) % 5 = i by omega]; exact hv
        · rw [upd_ne e2]; exact r2 q hq
    · rw [va_up_ne _ _ (by omega)]
      exact ⟨fun q hq => by rw [upd_ne (by omega)]; exact r1 q hq, r2⟩
  · rw [va_up_ne _ _ (by omega)]; exact hW r hr
  · rw [va_up_ne _ _ (by omega)]; exact hB
  · rw [va_up_ne _ _ (by omega), va_up_ne _ _ (by omega), va_up_ne _ _ (by omega)]; exact hA k hk
  · rw [va_up_ne _ _ (by omega)]; exact hV d r hd hr
  · rw [va_up_ne _ _ (by omega)]; exact hT.1
  · rw [va_up_ne _ _ (by omega)]; exact hT.2
  · have := hL d r hd hr
    unfold lvS at this ⊢
    rw [va_up_ne _ _ (by omega)]; exact this
theorem op_problem (h : RK S zs rn dy bn cn tn NU WE AT BU AV LS LT) (xr xs xp : Int32) (hc : 0 = tPrb xr xs xp rn) :
    prR (rw5 (S (3 + 2 * xr.toNatClampNeg)) xs.toNatClampNeg) xp.toNatClampNeg = prR (rwM NU ((12 * xr.toNatClampNeg + xs.toNatClampNeg) * 5)) xp.toNatClampNeg := by
  obtain ⟨c1, c2⟩ := c01 (a := 0) hc.symm
  obtain ⟨c2, -⟩ := c01 (a := 0) (b := 0) c2
  have h6 := h.1.1
  obtain ⟨j, k, hj, hk, rfl, rfl⟩ := secF_some c1 (by omega)
  obtain ⟨i, hi, rfl⟩ := i_to 4 (by decide) (by decide) c2
  rw [nI_clamp (show j < 2 ^ 31 by omega), nI_clamp (show k < 2 ^ 31 by omega), nI_clamp (show i < 2 ^ 31 by omega)]
  exact pr_congr _ _ (fun q hq => (h.rel j (by omega)).row hk hq) i hi
theorem op_danger (h : RK S zs rn dy bn cn tn NU WE AT BU AV LS LT) (xr xs xb : Int32) (hc : 0 = tDan xr xs rn) :
    (if xb = 0 then dngA (rw5 (S (3 + 2 * xr.toNatClampNeg)) xs.toNatClampNeg) else lvD (dngA (rw5 (S (3 + 2 * xr.toNatClampNeg)) xs.toNatClampNeg))) = (if xb = 0 then dngM (rwM NU ((12 * xr.toNatClampNeg + xs.toNatClampNeg) * 5)) else lvD (dngM (rwM NU ((12 * xr.toNatClampNeg + xs.toNatClampNeg) * 5)))) := by
  obtain ⟨c1, -⟩ := c01 (a := 0) (b := 0) hc.symm
  have h6 := h.1.1
  obtain ⟨j, k, hj, hk, rfl, rfl⟩ := secF_some c1 (by omega)
  rw [nI_clamp (show j < 2 ^ 31 by omega), nI_clamp (show k < 2 ^ 31 by omega), (h.rel j (by omega)).dng hk]
theorem op_reg (h : RK S zs rn dy bn cn tn NU WE AT BU AV LS LT) (xr : Int32) (hc : 0 = tReg xr rn) : ∃ j, j < 6 ∧ xr.toNatClampNeg = j ∧ rel (S (3 + 2 * xr.toNatClampNeg)) NU xr.toNatClampNeg := by
  obtain ⟨c1, -⟩ := c01 (a := 0) (b := 0) hc.symm
  have h6 := h.1.1
  obtain ⟨j, hj, rfl⟩ := i_reg c1 h6
  have e := nI_clamp (show j < 2 ^ 31 by omega)
  exact ⟨j, by omega, e, by rw [e]; exact h.rel j (by omega)⟩
theorem op_level (h : RK S zs rn dy bn cn tn NU WE AT BU AV LS LT) (xr : Int32) (hc : 0 = tReg xr rn) : levA (S (3 + 2 * xr.toNatClampNeg)) = levM NU xr.toNatClampNeg := by
  obtain ⟨j, hj, e, hr⟩ := op_reg h xr hc
  exact hr.lev
theorem op_core (h : RK S zs rn dy bn cn tn NU WE AT BU AV LS LT) (xr : Int32) (hc : 0 = tReg xr rn) : crA (S (3 + 2 * xr.toNatClampNeg)) (levA (S (3 + 2 * xr.toNatClampNeg))) 12 = corM NU xr.toNatClampNeg := by
  obtain ⟨j, hj, e, hr⟩ := op_reg h xr hc
  exact hr.cor
theorem op_mainProblem (h : RK S zs rn dy bn cn tn NU WE AT BU AV LS LT) (xr : Int32) (hc : 0 = tReg xr rn) : (fpA (S (3 + 2 * xr.toNatClampNeg)) (crA (S (3 + 2 * xr.toNatClampNeg)) (levA (S (3 + 2 * xr.toNatClampNeg))) 12) 4).1 = manM NU xr.toNatClampNeg := by
  obtain ⟨j, hj, e, hr⟩ := op_reg h xr hc
  exact hr.man
theorem op_outlook (h : RK S zs rn dy bn cn tn NU WE AT BU AV LS LT) (xr xn xw xf xt : Int32) (hc : 0 = tWea xr xn xw xf xt rn) :
    levA (PO (va_cpy (S (3 + 2 * xr.toNatClampNeg)) (S 15) 0 0 60) ((fF 1 xn xw xf xt) 2) ((fF 1 xn xw xf xt) 3) ((fF 1 xn xw xf xt) 4) ((fF 1 xn xw xf xt) 5)) = lvM (tnM NU xr.toNatClampNeg xn xw xf xt) 0 := by
  rw [PO_eq]
  show levA (pdN (va_cpy (S (3 + 2 * xr.toNatClampNeg)) (S 15) 0 0 60) xn xw xf xt 12) = _
  obtain ⟨c1, c2⟩ := c01 (a := 0) hc.symm
  obtain ⟨c2, -⟩ := c01 (a := 1) (b := 0) c2
  have h6 := h.1.1
  obtain ⟨j, hj, rfl⟩ := i_reg c1 h6
  rw [nI_clamp (show j < 2 ^ 31 by omega)]
  obtain ⟨r1, r2⟩ := h.2.2.2.1 j (by omega)
  have ec : ∀ k, k < 60 → va_cpy (S (3 + 2 * j)) (S 15) 0 0 60 k = S (3 + 2 * j) k := by
    intro k hk
    show (if 0 ≤ k ∧ k < 0 + 60 then S (3 + 2 * j) (0 + (k - 0)) else _) = _
    rw [if_pos (by omega), Nat.zero_add, Nat.sub_zero]
  have hR : relR (va_cpy (S (3 + 2 * j)) (S 15) 0 0 60) NU j := ⟨fun k hk => by rw [ec k hk]; exact r1 k hk, fun k hk => by rw [ec k hk]; exact r2 k hk⟩
  exact lev_eq fun k hk => by rw [(day_rel hR (wok_of c2) k hk).1, Nat.zero_add]
theorem op_free (h : RK S zs rn dy bn cn tn NU WE AT BU AV LS LT) (A B C : Nat → Int32) : RK (va_up (va_up (va_up S 15 A) 14 B) 15 C) zs rn dy bn cn tn NU WE AT BU AV LS LT := by
  obtain ⟨h0, hz, hzd, hN, hW, hD, hB, hn, hA, hV, hT, hL⟩ := h
  have e : ∀ k, k ≠ 14 → k ≠ 15 → va_up (va_up (va_up S 15 A) 14 B) 15 C k = S k := fun k h1 h2 => by rw [va_up_ne _ _ h2, va_up_ne _ _ h1, va_up_ne _ _ h2]
  refine ⟨h0, hz, hzd, fun r hr => ?_, fun r hr => ?_, hD, ?_, hn, fun k hk => ?_, fun d r hd hr => ?_, ⟨?_, ?_⟩, fun d r hd hr => ?_⟩
  · rw [e _ (by omega) (by omega)]; exact hN r hr
  · rw [e _ (by omega) (by omega)]; exact hW r hr
  · rw [e _ (by omega) (by omega)]; exact hB
  · rw [e _ (by omega) (by omega), e _ (by omega) (by omega), e _ (by omega) (by omega)]; exact hA k hk
  · rw [e _ (by omega) (by omega)]; exact hV d r hd hr
  · rw [e _ (by omega) (by omega)]; exact hT.1
  · rw [e _ (by omega) (by omega)]; exact hT.2
  · have := hL d r hd hr
    unfold lvS at this ⊢
    rw [e _ (by omega) (by omega)]; exact this
theorem op_publish (h : RK S zs rn dy bn cn tn NU WE AT BU AV LS LT) (hc : 0 = tPub zs dy rn) :
    pgD S rn = pgM NU rn ∧ RK (va_up S 18 (pbD S dy rn)) (va_up zs dy rn) rn dy (bn + 1) cn tn NU WE AT (pbM NU dy BU rn) AV LS LT := by
  have hrel := h.rel
  obtain ⟨⟨h6, h60, h200, h20⟩, hz, hzd, hN, hW, hD, hB, hn, hA, hV, hT, hL⟩ := h
  obtain ⟨c1, c2⟩ := c01 (a := 0) hc.symm
  obtain ⟨c2, -⟩ := c01 (a := 0) (b := 0) c2
  have ep : pbD S dy rn = pbM NU dy BU rn := by rw [← hB]; exact pb_eq hrel dy rn h6
  refine ⟨pg_eq hrel rn h6, ⟨h6, h60, h200, h20⟩, fun k => ?_, fun k hk => ?_, fun r hr => ?_, fun r hr => ?_, hD, ?_, ?_, fun k hk => ?_, fun d r hd hr => ?_, ⟨?_, ?_⟩, fun d r hd hr => ?_⟩
  · by_cases e : k = dy
    · subst e; rw [va_up_self]; exact Nat.le_refl _
    · rw [va_up_ne _ _ e]; exact hz k
  · rw [va_up_ne _ _ (by omega)]; exact hzd k hk
  · rw [va_up_ne _ _ (by omega)]; exact hN r hr
  · rw [va_up_ne _ _ (by omega)]; exact hW r hr
  · rw [va_up_self]; exact ep
  · rw [nb_hi zs dy rn (by omega) (by omega) 61 (by omega), hn]; exact nI_1 bn
  · rw [va_up_ne _ _ (by omega), va_up_ne _ _ (by omega), va_up_ne _ _ (by omega)]; exact hA k hk
  · rw [va_up_ne _ _ (by omega)]; exact hV d r hd hr
  · rw [va_up_ne _ _ (by omega)]; exact hT.1
  · rw [va_up_ne _ _ (by omega)]; exact hT.2
  · unfold lvS
    rw [va_up_self]
    by_cases e : d = dy
    · subst e
      rw [va_up_self] at hr
      obtain ⟨z, z1, z5, ez⟩ := lev15 (S (3 + 2 * r))
      rw [pb_at S d r rn h6 hr, ez, nI_clamp (show z < 2 ^ 31 by omega)]
      exact ⟨z1, z5, rfl⟩
    · rw [va_up_ne _ _ e] at hr
      have hzr := hz d
      rw [pb_off S dy _ rn h6 (by omega)]
      exact hL d r hd hr
theorem op_bulletin (h : RK S zs rn dy bn cn tn NU WE AT BU AV LS LT) (xd xr xw : Int32) : S 18 ((xd.toNatClampNeg * 6 + xr.toNatClampNeg) * 3 + xw.toNatClampNeg) = BU ((6 * xd.toNatClampNeg + xr.toNatClampNeg) * 3 + xw.toNatClampNeg) := by
  rw [h.2.2.2.2.2.2.1, Nat.mul_comm 6]
theorem op_see (h : RK S zs rn dy bn cn tn NU WE AT BU AV LS LT) (xr xs xz : Int32) (hc : 0 = tSee xr xs xz rn cn) :
    (upd (S 23) (dy * 6 + xr.toNatClampNeg) (S 23 (dy * 6 + xr.toNatClampNeg) + nI (xz.toNatClampNeg * xz.toNatClampNeg))) (dy * 6 + xr.toNatClampNeg) = acM (va_cpy (mdF dy xr.toNatClampNeg xs.toNatClampNeg xz) AV 0 (4 * cn) 4) dy xr.toNatClampNeg (cn + 1) ∧
    RK (va_up (va_up (va_up (va_up S 20 (upd (S 20) cn (nI dy))) 21 (upd (S 21) cn (nI xr.toNatClampNeg))) 22 (upd (S 22) cn (nI xs.toNatClampNeg))) 23 (upd (S 23) (dy * 6 + xr.toNatClampNeg) (S 23 (dy * 6 + xr.toNatClampNeg) + nI (xz.toNatClampNeg * xz.toNatClampNeg)))) zs rn dy bn (cn + 1) tn NU WE AT BU (va_cpy (mdF dy xr.toNatClampNeg xs.toNatClampNeg xz) AV 0 (4 * cn) 4) LS LT := by
  obtain ⟨⟨h6, h60, h200, h20⟩, hz, hzd, hN, hW, hD, hB, hn, hA, hV, hT, hL⟩ := h
  obtain ⟨c1, c2⟩ := c01 (a := 0) hc.symm
  obtain ⟨c2, c3⟩ := c01 (a := 1) c2
  obtain ⟨c3, -⟩ := c01 (a := 2) (b := 0) c3
  obtain ⟨j, k, hj, hk, rfl, rfl⟩ := secF_some c1 (by omega)
  obtain ⟨z, z1, z5, rfl⟩ := isIn_15 c2
  rw [nI_clamp (show j < 2 ^ 31 by omega), nI_clamp (show k < 2 ^ 31 by omega), nI_clamp (show z < 2 ^ 31 by omega)]
  have ezz : nI (z * z) = nI z * nI z := Int32.ofNat_mul z z
  have hnew : ∀ d r, d ≤ 60 → r < 6 → upd (S 23) (dy * 6 + j) (S 23 (dy * 6 + j) + nI (z * z)) (d * 6 + r) = acM (seM dy j k (nI z) AV cn) d r (cn + 1) := by
    intro d r hd hr
    rw [ac_see]
    by_cases e : d = dy
    · subst e
      rw [if_pos rfl]
      by_cases e2 : r = j
      · subst e2
        rw [upd_at, if_pos rfl, hV d r hd hr, ezz]
      · rw [upd_ne (by omega), if_neg (fun q => e2 (nI_inj (by omega) (by omega) q).symm), hV d r hd hr]
    · rw [upd_ne (by omega), if_neg (fun q => e (nI_inj (by omega) (by omega) q).symm), hV d r hd hr]
  have e : ∀ q, (q < 20 ∨ 23 < q) → va_up (va_up (va_up (va_up S 20 (upd (S 20) cn (nI dy))) 21 (upd (S 21) cn (nI j))) 22 (upd (S 22) cn (nI k))) 23 (upd (S 23) (dy * 6 + j) (S 23 (dy * 6 + j) + nI (z * z))) q = S q := fun q hq => by rw [va_up_ne _ _ (by omega), va_up_ne _ _ (by omega), va_up_ne _ _ (by omega), va_up_ne _ _ (by omega)]
  refine ⟨hnew dy j h60 (by omega), ⟨h6, h60, by omega, h20⟩, hz, hzd, fun r hr => ?_, fun r hr => ?_, hD, ?_, hn, fun q hq => ?_, fun d r hd hr => ?_, ⟨?_, ?_⟩, fun d r hd hr => ?_⟩
  · rw [e _ (by omega)]; exact hN r hr
  · rw [e _ (by omega)]; exact hW r hr
  · rw [e _ (by omega)]; exact hB
  · rw [va_up_ne _ _ (show (20 : Nat) ≠ 23 by omega), va_up_ne _ _ (show (20 : Nat) ≠ 22 by omega), va_up_ne _ _ (show (20 : Nat) ≠ 21 by omega), va_up_self, va_up_ne _ _ (show (21 : Nat) ≠ 23 by omega), va_up_ne _ _ (show (21 : Nat) ≠ 22 by omega), va_up_self, va_up_ne _ _ (show (22 : Nat) ≠ 23 by omega), va_up_self]
    by_cases e2 : q = cn
    · subst e2
      obtain ⟨s0, s1, s2, _⟩ := se_at dy j k (nI z) AV q
      rw [upd_at, upd_at, upd_at]
      exact ⟨s0.symm, s1.symm, s2.symm, dy, h60, s0⟩
    · rw [upd_ne e2, upd_ne e2, upd_ne e2]
      obtain ⟨a0, a1, a2, a3⟩ := hA q (by omega)
      have l0 := se_lo dy j k (nI z) AV cn (4 * q) (by omega)
      have l1 := se_lo dy j k (nI z) AV cn (4 * q + 1) (by omega)
      have l2 := se_lo dy j k (nI z) AV cn (4 * q + 2) (by omega)
      unfold seM at l0 l1 l2
      rw [l0, l1, l2]
      exact ⟨a0, a1, a2, a3⟩
  · rw [va_up_self]; exact hnew d r hd hr
  · rw [e _ (by omega)]; exact hT.1
  · rw [e _ (by omega)]; exact hT.2
  · have := hL d r hd hr
    unfold lvS at this ⊢
    rw [e _ (by omega)]; exact this
theorem op_activity (h : RK S zs rn dy bn cn tn NU WE AT BU AV LS LT) (xd xr : Int32) (hc : 0 = tAct xd xr dy rn) : S 23 (xd.toNatClampNeg * 6 + xr.toNatClampNeg) = acM AV xd.toNatClampNeg xr.toNatClampNeg cn := by
  obtain ⟨⟨h6, h60, h200, h20⟩, hz, hzd, hN, hW, hD, hB, hn, hA, hV, hT, hL⟩ := h
  obtain ⟨c1, c2⟩ := c01 (a := 0) hc.symm
  obtain ⟨c2, -⟩ := c01 (a := 0) (b := 0) c2
  obtain ⟨d, hd, rfl⟩ := isIn_day c1 (by omega)
  obtain ⟨j, hj, rfl⟩ := i_reg c2 h6
  rw [nI_clamp (show d < 2 ^ 31 by omega), nI_clamp (show j < 2 ^ 31 by omega)]
  exact hV d j (by omega) (by omega)
theorem op_borneOut (h : RK S zs rn dy bn cn tn NU WE AT BU AV LS LT) (xh : Int32) : bcD S zs rn xh (dy + 1) = boD BU AV cn zs xh 61 := by
  obtain ⟨⟨h6, h60, h200, h20⟩, hz, hzd, hN, hW, hD, hB, hn, hA, hV, hT, hL⟩ := h
  rw [bo_d xh h6 hz hV (dy + 1) (by omega), ← hB]
  have := bo_up (BU := S 18) (AV := AV) (cn := cn) xh (n := dy + 1) (fun k hk => hzd k (by omega)) (60 - dy)
  rw [show dy + 1 + (60 - dy) = 61 by omega] at this
  exact this.symm
theorem op_inCore (h : RK S zs rn dy bn cn tn NU WE AT BU AV LS LT) (xr : Int32) (hc : 0 = tReg xr rn) : icR S zs xr.toNatClampNeg cn = jcR BU AV zs xr.toNatClampNeg cn := by
  have hz := h.hz
  obtain ⟨j, hj, e, hr⟩ := op_reg h xr hc
  rw [e]
  obtain ⟨i1, i2⟩ := ic_eq hz h.2.2.2.2.2.2.2.2.1 hj cn (Nat.le_refl _)
  unfold icR jcR
  rw [i1, i2, h.2.2.2.2.2.2.1]
theorem op_addLeg (h : RK S zs rn dy bn cn tn NU WE AT BU AV LS LT) (xs xp : Int32) (hc : 0 = tLeg xs xp tn) : RK (va_up (va_up S 25 (upd (S 25) tn xs)) 26 (upd (S 26) tn xp)) zs rn dy bn cn (tn + 1) NU WE AT BU AV (upd LS tn xs) (upd LT tn xp) := by
  obtain ⟨⟨h6, h60, h200, h20⟩, hz, hzd, hN, hW, hD, hB, hn, hA, hV, hT, hL⟩ := h
  obtain ⟨c1, c2⟩ := c01 (a := 0) hc.symm
  obtain ⟨c2, c3⟩ := c01 (a := 0) c2
  obtain ⟨c3, -⟩ := c01 (a := 1) (b := 0) c3
  have e : ∀ q, q < 25 → va_up (va_up S 25 (upd (S 25) tn xs)) 26 (upd (S 26) tn xp) q = S q := fun q hq => by rw [va_up_ne _ _ (by omega), va_up_ne _ _ (by omega)]
  refine ⟨⟨h6, h60, h200, by omega⟩, hz, hzd, fun r hr => ?_, fun r hr => ?_, hD, ?_, hn, fun k hk => ?_, fun d r hd hr => ?_, ⟨?_, ?_⟩, fun d r hd hr => ?_⟩
  · rw [e _ (by omega)]; exact hN r hr
  · rw [e _ (by omega)]; exact hW r hr
  · rw [e _ (by omega)]; exact hB
  · rw [e _ (by omega), e _ (by omega), e _ (by omega)]; exact hA k hk
  · rw [e _ (by omega)]; exact hV d r hd hr
  · rw [va_up_ne _ _ (by omega), va_up_self, hT.1]
  · rw [va_up_self, hT.2]
  · have := hL d r hd hr
    unfold lvS at this ⊢
    rw [e _ (by omega)]; exact this
theorem op_clear (h : RK S zs rn dy bn cn tn NU WE AT BU AV LS LT) : RK S zs rn dy bn cn 0 NU WE AT BU AV LS LT := by
  obtain ⟨⟨h6, h60, h200, h20⟩, h9⟩ := h
  exact ⟨⟨h6, h60, h200, by omega⟩, h9⟩
theorem op_risk (h : RK S zs rn dy bn cn tn NU WE AT BU AV LS LT) (xr xl : Int32) (hc : 0 = tRsk xr xl rn tn) : rkD (S (3 + 2 * xr.toNatClampNeg)) (S 25) (S 26) xl.toNatClampNeg = rkM NU xr.toNatClampNeg (LS xl.toNatClampNeg) (LT xl.toNatClampNeg) := by
  obtain ⟨c1, -⟩ := c01 (a := 0) hc.symm
  obtain ⟨j, hj, e, hr⟩ := op_reg h xr (by unfold tReg; rw [if_neg c1])
  obtain ⟨hT1, hT2⟩ := h.2.2.2.2.2.2.2.2.2.2.1
  unfold rkD rkM
  rw [hr.lev, hr.cor, hT1, hT2]
theorem op_worst (h : RK S zs rn dy bn cn tn NU WE AT BU AV LS LT) (xr : Int32) (hc : 0 = tReg xr rn) : (wsF (levA (S (3 + 2 * xr.toNatClampNeg))) (corD (S (3 + 2 * xr.toNatClampNeg))) (S 25) (S 26) tn).1 = wxM NU xr.toNatClampNeg LS LT tn := by
  obtain ⟨j, hj, e, hr⟩ := op_reg h xr hc
  obtain ⟨hT1, hT2⟩ := h.2.2.2.2.2.2.2.2.2.2.1
  have h20 := h.1.2.2.2
  rw [wx_eq hr _ _ tn (by omega), hT1, hT2]
theorem op_best (h : RK S zs rn dy bn cn tn NU WE AT BU AV LS LT) : (if tn = 0 then (-1 : Int32) else (brF S tn rn).1) = (if tn = 0 then -1 else bxM NU LS LT tn rn) := by
  obtain ⟨hT1, hT2⟩ := h.2.2.2.2.2.2.2.2.2.2.1
  have h20 := h.1.2.2.2
  have h6 := h.1.1
  by_cases c : tn = 0
  · rw [if_pos c, if_pos c]
  · rw [if_neg c, if_neg c]
    cases rn with
    | zero => rfl
    | succ n => rw [br_eq h.rel tn (by omega) (by omega) (n + 1) h6 (by omega), hT1, hT2]; rfl
theorem op_digest (h : RK S zs rn dy bn cn tn NU WE AT BU AV LS LT) : dgD S zs rn dy cn tn = diM dy rn cn tn NU zs BU AV LS LT := by
  have hrel := h.rel
  obtain ⟨⟨h6, h60, h200, h20⟩, hz, hzd, hN, hW, hD, hB, hn, hA, hV, hT, hL⟩ := h
  unfold dgD diM
  have e0 : ((331 : Int64) * 31) = 10261 := by decide
  rw [dx_t, dd_d, dd_r hrel (fun r hr => hV dy r h60 hr) _ rn h6, hB, hT.1, hT.2, e0]
  have := db_up BU zs (dqM NU AV dy cn ((10261 + Int32.toInt64 (nI dy)) * 31 + Int32.toInt64 (nI rn)) rn) (n := dy + 1) (fun k hk => hzd k (by omega)) (60 - dy)
  rw [show dy + 1 + (60 - dy) = 61 by omega] at this
  rw [this]
end RKS
