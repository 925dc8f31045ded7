/-! what the law asks of the numbers: ranges, levels, cores, sums -/
theorem mxN {a b : Nat} (ha : a < 2147483648) (hb : b < 2147483648) : mx (nI a) (nI b) = nI (max a b) := by
  unfold mx
  by_cases h : a < b
  · rw [if_pos ((nI_ltI ha hb).mpr h), Nat.max_eq_right (by omega)]
  · rw [if_neg (fun q => h ((nI_ltI ha hb).mp q)), Nat.max_eq_left (by omega)]
theorem mnN {a b : Nat} (ha : a < 2147483648) (hb : b < 2147483648) : mn (nI a) (nI b) = nI (min a b) := by
  unfold mn
  by_cases h : b < a
  · rw [if_pos ((nI_ltI hb ha).mpr h), Nat.min_eq_right (by omega)]
  · rw [if_neg (fun q => h ((nI_ltI hb ha).mp q)), Nat.min_eq_left (by omega)]
def okN (N : Nat → Int32) : Prop := ∀ s, s < 12 → Rg (rw5 N s)
theorem okN_at {N : Nat → Int32} (h : okN N) {s w : Nat} (hs : s < 12) (hw : w < 5) : okv (N (s * 5 + w)) (gB w) := h s hs w hw
theorem ok_lo {N : Nat → Int32} (h : okN N) {s w : Nat} (hs : s < 12) (hw : w < 5) : ¬ N (s * 5 + w) < 0 := by
  obtain ⟨n, hn, e⟩ := okN_at h hs hw
  have := gB_lt w
  rw [e]; exact nI_pos (show n < 2 ^ 31 by omega)
theorem ok_hi {N : Nat → Int32} (h : okN N) {s w : Nat} (hs : s < 12) (hw : w < 5) : ¬ nI (gB w) < N (s * 5 + w) := by
  obtain ⟨n, hn, e⟩ := okN_at h hs hw
  have := gB_lt w
  rw [e]; exact nI_nlt hn (show gB w < 2 ^ 31 by omega)
theorem ok_h10 {N : Nat → Int32} (h : okN N) {s w : Nat} (hs : s < 12) (hw : w = 4) : ¬ 10 < N (s * 5 + w) := by
  subst hw; exact ok_hi h hs (by omega)
theorem ok_h100 {N : Nat → Int32} (h : okN N) {s w : Nat} (hs : s < 12) (hw : w < 5) : ¬ 100 < N (s * 5 + w) := by
  obtain ⟨n, hn, e⟩ := okN_at h hs hw
  have := gB_lt w
  rw [e]; exact nI_nlt (show n ≤ 100 by omega) (by decide)
theorem ok_prb {f : Nat → Int32} (h : Rg f) {p : Nat} (hp : p < 4) : okv (prR f p) 100 := by
  unfold prR
  by_cases e : p = 2
  · subst e
    rw [if_pos rfl]
    have h2 : okv (f 2) 100 := h 2 (by omega)
    have hs : okv (f 0 + f 1) 200 := ok_add (h 0 (by omega)) (h 1 (by omega))
    obtain ⟨m, hm, em⟩ := ok_mn 100 hs (by decide) (by decide)
    have em : mn 100 (f 0 + f 1) = nI m := em
    rw [em]
    exact ok_frac m 100 h2 (by omega) (by decide) hm (by decide)
  · rw [if_neg e]
    have h9 := h p (by omega)
    have := gB_lt p
    exact ok_mono h9 (by omega)
theorem dg_ok {f : Nat → Int32} (h : Rg f) : ∀ k, k ≤ 4 → ∃ a b, b ≤ a ∧ a ≤ 100 ∧ dgA f k = (nI a, nI b)
  | 0, _ => ⟨0, 0, Nat.le_refl _, by omega, rfl⟩
  | k + 1, hk => by
    obtain ⟨a, b, h1, h2, e⟩ := dg_ok h k (by omega)
    obtain ⟨n, hn, en⟩ := ok_prb h (show k < 4 by omega)
    refine ⟨max a n, max b (min n a), by omega, by omega, ?_⟩
    show (mx (dgA f k).1 (prR f k), mx (dgA f k).2 (mn (prR f k) (dgA f k).1)) = _
    rw [e, en]
    show (mx (nI a) (nI n), mx (nI b) (mn (nI n) (nI a))) = _
    rw [mxN (by omega) (by omega), mnN (by omega) (by omega), mxN (by omega) (by omega)]
theorem dng_ok {f : Nat → Int32} (h : Rg f) : ∃ a b, b ≤ a ∧ a ≤ 100 ∧ (dgA f 4).1 = nI a ∧ dngA f = nI (a + b / 4) := by
  obtain ⟨a, b, h1, h2, e⟩ := dg_ok h 4 (Nat.le_refl _)
  refine ⟨a, b, h1, h2, by rw [e], ?_⟩
  unfold dngA
  rw [e]
  show nI a + nI b / nI 4 = _
  rw [pk_div (by omega) (by decide) (by decide), nI_add]
theorem dng_125 {f : Nat → Int32} (h : Rg f) : ¬ 125 < dngA f := by
  obtain ⟨a, b, h1, h2, e1, e2⟩ := dng_ok h
  rw [e2]; exact nI_nlt (show a + b / 4 ≤ 125 by omega) (by decide)
theorem dng_ge {f : Nat → Int32} (h : Rg f) : ¬ dngA f < (dgA f 4).1 := by
  obtain ⟨a, b, h1, h2, e1, e2⟩ := dng_ok h
  rw [e1, e2]; exact nI_nlt (show a ≤ a + b / 4 by omega) (by omega)
theorem dng_le {f : Nat → Int32} (h : Rg f) : ¬ (dgA f 4).1 + (dgA f 4).1 / 4 < dngA f := by
  obtain ⟨a, b, h1, h2, e1, e2⟩ := dng_ok h
  rw [e1, e2]
  have e3 : nI a + nI a / 4 = nI (a + a / 4) := by
    show nI a + nI a / nI 4 = _
    rw [pk_div (by omega) (by decide) (by decide), nI_add]
  rw [e3]; exact nI_nlt (show a + b / 4 ≤ a + a / 4 by omega) (by omega)
theorem lvD_le5 (d : Int32) : ¬ 5 < lvD d := by
  unfold lvD
  repeat' split
  all_goals decide
/-- how many of the first sectors have a level or more -/
def cL (N : Nat → Int32) (lv : Int32) : Nat → Nat
  | 0 => 0
  | k + 1 => if lvD (dngA (rw5 N k)) < lv then cL N lv k else cL N lv k + 1
theorem cL_le (N : Nat → Int32) (lv : Int32) : ∀ k, cL N lv k ≤ k
  | 0 => Nat.le_refl 0
  | k + 1 => by
    have := cL_le N lv k
    show (if lvD (dngA (rw5 N k)) < lv then cL N lv k else cL N lv k + 1) ≤ k + 1
    split <;> omega
theorem cL_t (N : Nat → Int32) (lv : Int32) (t : Int) (hl : ∀ d : Int32, lvD d < lv ↔ d.toInt < t) : ∀ k, cL N lv k = cA (fun k => dngA (rw5 N k)) t k
  | 0 => rfl
  | k + 1 => by
    show (if lvD (dngA (rw5 N k)) < lv then cL N lv k else cL N lv k + 1) = (if (dngA (rw5 N k)).toInt < t then cA (fun k => dngA (rw5 N k)) t k else cA (fun k => dngA (rw5 N k)) t k + 1)
    rw [cL_t N lv t hl k]
    by_cases h : lvD (dngA (rw5 N k)) < lv
    · rw [if_pos h, if_pos ((hl _).mp h)]
    · rw [if_neg h, if_neg (fun q => h ((hl _).mpr q))]
theorem cL_1 (N : Nat → Int32) : ∀ k, cL N 1 k = k
  | 0 => rfl
  | k + 1 => by
    show (if lvD (dngA (rw5 N k)) < 1 then cL N 1 k else cL N 1 k + 1) = _
    rw [if_neg (lvD_ge _), cL_1 N k]
theorem cL_two (N : Nat → Int32) : 2 ≤ cL N (levA N) 12 := by
  have key : ∀ (lv : Int32) (t : Int), 0 < t → t ≤ (flA N 12).2.toInt → (∀ d : Int32, lvD d < lv ↔ d.toInt < t) → 2 ≤ cL N lv 12 := by
    intro lv t ht h1 hl
    rw [cL_t N lv t hl]
    exact (flA_c N t ht 12).2.2.mp h1
  unfold levA
  rcases lvD_c (flA N 12).2 with ⟨_, e⟩ | ⟨q, _, e⟩ | ⟨q, _, e⟩ | ⟨q, _, e⟩ | ⟨q, e⟩ <;> rw [e]
  · rw [cL_1]; omega
  · exact key 2 10 (by omega) q (fun d => (lvD_lt d).2.2.2)
  · exact key 3 30 (by omega) q (fun d => (lvD_lt d).2.2.1)
  · exact key 4 55 (by omega) q (fun d => (lvD_lt d).2.1)
  · exact key 5 80 (by omega) q (fun d => (lvD_lt d).1)
/-! the bits of a core -/
theorem bit_sh : ∀ s, s < 12 → ((nI s &&& 31).toBitVec.smod 32).toNat = s := by decide +kernel
theorem bit_one : ∀ i, i < 12 → ∀ s, s < 12 → ((1 <<< (nI i &&& 31) : Int32).toBitVec).getLsbD s = decide (s = i) := by decide +kernel
theorem bit_eq (x : Int32) {s : Nat} (hs : s < 12) : bitF x (nI s) = if x.toBitVec.getLsbD s = true then 1 else 0 := by
  have h1 : (x >>> (nI s &&& 31)).toInt = x.toInt >>> s := pk_shr x (nI s &&& 31) s (bit_sh s hs)
  unfold bitF
  have h2 : (x >>> (nI s &&& 31)).toBitVec = x.toBitVec.sshiftRight s := by
    apply BitVec.eq_of_toInt_eq
    rw [BitVec.toInt_sshiftRight]
    exact h1
  have h3 : ((x >>> (nI s &&& 31)) &&& 1).toBitVec = (if x.toBitVec.getLsbD s = true then (1 : Int32) else 0).toBitVec := by
    rw [Int32.toBitVec_and, h2]
    have e1 : (1 : Int32).toBitVec = 1#32 := rfl
    have e0 : (0 : Int32).toBitVec = 0#32 := rfl
    apply BitVec.eq_of_getLsbD_eq
    intro i hi
    rw [BitVec.getLsbD_and, BitVec.getLsbD_sshiftRight, e1]
    by_cases h0 : i = 0
    · subst h0
      rw [show (1#32).getLsbD 0 = true from by decide, Bool.and_true]
      have h32 : s + 0 < 32 := by omega
      by_cases hb : x.toBitVec.getLsbD s = true
      · rw [if_pos hb, e1]; simp [hb, h32]; omega
      · rw [if_neg hb, e0]; simp at hb; simp [hb, h32]; intro h9; omega
    · have e2 : (1#32).getLsbD i = false := by
        rw [BitVec.getLsbD_one]; simp [h0]
      rw [e2, Bool.and_false]
      by_cases hb : x.toBitVec.getLsbD s = true
      · rw [if_pos hb, e1, e2]
      · rw [if_neg hb, e0]; simp
  exact Int32.toBitVec_inj.mp h3
theorem cr_bit (N : Nat → Int32) (lv : Int32) {s : Nat} (hs : s < 12) : ∀ k, k ≤ 12 → (crA N lv k).toBitVec.getLsbD s = (decide (s < k) && decide (¬ lvD (dngA (rw5 N s)) < lv))
  | 0, _ => by
    show ((0 : Int32).toBitVec).getLsbD s = _
    rw [show (0 : Int32).toBitVec = 0#32 from rfl]; simp
  | k + 1, hk => by
    have ih := cr_bit N lv hs k (by omega)
    show (if lvD (dngA (rw5 N k)) < lv then crA N lv k else crA N lv k ||| (1 <<< (nI k &&& 31))).toBitVec.getLsbD s = _
    by_cases h : lvD (dngA (rw5 N k)) < lv
    · rw [if_pos h, ih]
      by_cases e : s = k
      · subst e; simp [h]
      · have e2 : decide (s < k + 1) = decide (s < k) := by
          by_cases h9 : s < k
          · rw [decide_eq_true h9, decide_eq_true (by omega)]
          · rw [decide_eq_false h9, decide_eq_false (by omega)]
        rw [e2]
    · rw [if_neg h, Int32.toBitVec_or, BitVec.getLsbD_or, ih, bit_one k (by omega) s hs]
      by_cases e : s = k
      · subst e; simp [h]
      · have e2 : decide (s < k + 1) = decide (s < k) := by
          by_cases h9 : s < k
          · rw [decide_eq_true h9, decide_eq_true (by omega)]
          · rw [decide_eq_false h9, decide_eq_false (by omega)]
        rw [e2, decide_eq_false e, Bool.or_false]
theorem cr_in (N : Nat → Int32) (lv : Int32) {s : Nat} (hs : s < 12) (h : ¬ lvD (dngA (rw5 N s)) < lv) : (crA N lv 12 >>> (nI s &&& 31)) &&& 1 = 1 := by
  have h1 := bit_eq (crA N lv 12) hs
  rw [if_pos (by rw [cr_bit N lv hs 12 (Nat.le_refl _), decide_eq_true hs, decide_eq_true h]; rfl)] at h1
  exact h1
theorem cr_out (N : Nat → Int32) (lv : Int32) {s : Nat} (hs : s < 12) (h : lvD (dngA (rw5 N s)) < lv) : (crA N lv 12 >>> (nI s &&& 31)) &&& 1 = 0 := by
  have h1 := bit_eq (crA N lv 12) hs
  rw [if_neg (by rw [cr_bit N lv hs 12 (Nat.le_refl _), decide_eq_true hs, decide_eq_false (fun q => q h)]; decide)] at h1
  exact h1
/-! a day keeps the ranges -/
theorem day_ok {N : Nat → Int32} {sn wi fr te : Int32} (h : okN N) (hw : wok sn wi fr te) : okN (pdN N sn wi fr te 12) := by
  intro s hs w hw5
  have e : rw5 (pdN N sn wi fr te 12) s w = goF (rw5 N s) s sn wi fr te w := pd_row h hw 12 (Nat.le_refl _) s w hs hw5
  rw [e]
  exact RgF (h s hs) hw hs w hw5
theorem ok_0 : okN (fun _ => 0) := fun _ _ w _ => ok0 (gB w)
theorem end_ok {S : Nat → Nat → Int32} (hN : ∀ r, r < 6 → okN (S (3 + 2 * r))) (hW : ∀ r, r < 6 → wok (S (2 + 2 * r) 2) (S (2 + 2 * r) 3) (S (2 + 2 * r) 4) (S (2 + 2 * r) 5)) : ∀ n : Nat, n ≤ 6 → (∀ r, r < 6 → okN (dES S n (3 + 2 * r))) ∧ (∀ r, r < 6 → wok (dES S n (2 + 2 * r) 2) (dES S n (2 + 2 * r) 3) (dES S n (2 + 2 * r) 4) (dES S n (2 + 2 * r) 5)) ∧ (∀ k, 14 ≤ k → dES S n k = S k)
  | 0, _ => ⟨hN, hW, fun _ _ => rfl⟩
  | n + 1, hn => by
    obtain ⟨i1, i2, i3⟩ := end_ok hN hW n (by omega)
    have d := day_ok (i1 n (by omega)) (i2 n (by omega))
    have eD : dES S (n + 1) = va_up (va_up (dES S n) (3 + 2 * n) (pdN (dES S n (3 + 2 * n)) ((dES S n (2 + 2 * n)) 2) ((dES S n (2 + 2 * n)) 3) ((dES S n (2 + 2 * n)) 4) ((dES S n (2 + 2 * n)) 5) 12)) (2 + 2 * n) (fF 0 0 0 0 (-5)) := rfl
    rw [eD]
    generalize pdN (dES S n (3 + 2 * n)) ((dES S n (2 + 2 * n)) 2) ((dES S n (2 + 2 * n)) 3) ((dES S n (2 + 2 * n)) 4) ((dES S n (2 + 2 * n)) 5) 12 = P at d ⊢
    refine ⟨fun r hr => ?_, fun r hr => ?_, fun k hk => ?_⟩
    · by_cases e : r = n
      · subst e
        rw [va_up_ne _ _ (by omega), va_up_self]; exact d
      · rw [va_up_ne _ _ (by omega), va_up_ne _ _ (by omega)]; exact i1 r hr
    · by_cases e : r = n
      · subst e
        rw [va_up_self]; exact wok_calm
      · rw [va_up_ne _ _ (by omega), va_up_ne _ _ (by omega)]; exact i2 r hr
    · rw [va_up_ne _ _ (by omega), va_up_ne _ _ (by omega)]; exact i3 k hk
/-! the law's numbers: below, weather, sums of what was told -/
def bl (v : Int32) (n : Nat) : Nat := Int32.toNatClampNeg (v &&& 2147483647) % n
theorem bl_lt (v : Int32) {n : Nat} (h : 0 < n) : bl v n < n := Nat.mod_lt _ h
theorem an31_nn (v : Int32) : ¬ (v &&& 2147483647) < 0 := by
  rw [pk_and v 31 (by decide)]
  exact nI_pos (Nat.mod_lt _ (by decide))
theorem an31 (v : Int32) : v &&& 2147483647 = nI (Int32.toNatClampNeg (v &&& 2147483647)) := by
  obtain ⟨j, hj, e⟩ := nI_of (an31_nn v)
  rw [e, nI_clamp hj]
theorem an31_lt (v : Int32) : Int32.toNatClampNeg (v &&& 2147483647) < 2147483648 := by
  obtain ⟨j, hj, e⟩ := nI_of (an31_nn v)
  rw [e, nI_clamp hj]; exact hj
theorem te_in : ∀ j, j < 46 → ¬ isInF (nI j - 30) (-30) 15 = 0 := by decide +kernel
theorem z_in : ∀ z, z < 6 → 1 ≤ z → ¬ isInF (nI z) 1 5 = 0 := by decide +kernel
theorem isIn_k {a n : Nat} {h : Int32} (hh : h = nI n - 1) (hn : n < 2147483648) (ha : a < n) : ¬ isInF (nI a) 0 h = 0 := by
  rw [isIn_n n hh hn, inF_nat ha hn]; decide
theorem wth_ok {a b c j : Nat} (ha : a ≤ 150) (hb : b ≤ 120) (hc : c < 4) (hj : j < 46) : ¬ wthF (nI a) (nI b) (nI c) (nI j - 30) = 0 := by
  unfold wthF
  rw [if_neg (isIn_k (n := 151) (by decide) (by decide) (by omega)), if_neg (isIn_k (n := 121) (by decide) (by decide) (by omega)), if_neg (isIn_k (n := 4) (by decide) (by decide) hc), if_neg (te_in j hj)]
  decide
theorem snow_ok {a b : Nat} (ha : a < 2) (hb : b < 151) : a * b ≤ 150 := by
  have := Nat.mul_le_mul (show a ≤ 1 by omega) (show b ≤ 150 by omega)
  omega
theorem tReg0 {j n : Nat} (h : j < n) (hn : n ≤ 6) : tReg (nI j) n = 0 := by
  unfold tReg; rw [inF_nat h (by omega), if_neg (by decide)]
theorem tAdd0 {n : Nat} (h : n < 6) : tAdd n = 0 := if_neg (by omega)
theorem tSec0 {j k w n : Nat} (h : j < n) (hk : k < 12) (hw : w < 5) (hn : n ≤ 6) : tSec (nI j) (nI k) (nI w) n = 0 := by
  unfold tSec; rw [secF_nat h hk (by omega), if_neg (by decide), if_neg (isIn_k (n := 5) (by decide) (by decide) hw)]
theorem tPrb0 {j k w n : Nat} (h : j < n) (hk : k < 12) (hw : w < 4) (hn : n ≤ 6) : tPrb (nI j) (nI k) (nI w) n = 0 := by
  unfold tPrb; rw [secF_nat h hk (by omega), if_neg (by decide), if_neg (isIn_k (n := 4) (by decide) (by decide) hw)]
theorem tDan0 {j k n : Nat} (h : j < n) (hk : k < 12) (hn : n ≤ 6) : tDan (nI j) (nI k) n = 0 := by
  unfold tDan; rw [secF_nat h hk (by omega), if_neg (by decide)]
theorem tWea0 {j n : Nat} {a b c d : Int32} (h : j < n) (hn : n ≤ 6) (hw : ¬ wthF a b c d = 0) : tWea (nI j) a b c d n = 0 := by
  unfold tWea; rw [inF_nat h (by omega), if_neg (by decide), if_neg hw]
theorem tSee0 {j k z n m : Nat} (h : j < n) (hk : k < 12) (h1 : 1 ≤ z) (h5 : z ≤ 5) (hn : n ≤ 6) (hm : m < 200) : tSee (nI j) (nI k) (nI z) n m = 0 := by
  unfold tSee; rw [secF_nat h hk (by omega), if_neg (by decide), if_neg (z_in z (by omega) h1), if_neg (by omega)]
theorem tPub0 {zs : Nat → Nat} {d n : Nat} (h : zs d = 0) (hn : 1 ≤ n) : tPub zs d n = 0 := by
  unfold tPub; rw [if_neg (by omega), if_neg (by omega)]
theorem tEnd0 {d : Nat} (h : d < 60) : tEnd d = 0 := if_neg (by omega)
theorem tBul0 {zs : Nat → Nat} {d r w : Nat} (hd : d ≤ 60) (hr : r < zs d) (hz : zs d ≤ 6) (hw : w < 3) : tBul zs (nI d) (nI r) (nI w) = 0 := by
  unfold tBul
  rw [nI_clamp (show d < 2 ^ 31 by omega), if_neg (isIn_k (n := 61) (by decide) (by decide) (by omega)), if_neg (isIn_k (n := zs d) rfl (by omega) hr), if_neg (isIn_k (n := 3) (by decide) (by decide) hw)]
def SZ (zs : Nat → Nat) : Nat → Nat
  | 0 => 0
  | k + 1 => SZ zs k + zs k
theorem SZ_le {zs : Nat → Nat} {n : Nat} (h : ∀ k, zs k ≤ n) : ∀ k, SZ zs k ≤ k * n
  | 0 => Nat.zero_le _
  | k + 1 => by
    have := SZ_le h k
    have := h k
    show SZ zs k + zs k ≤ (k + 1) * n
    rw [Nat.succ_mul]; omega
theorem SZ_up {zs : Nat → Nat} {d x : Nat} : ∀ k, k ≤ d → SZ (va_up zs d x) k = SZ zs k
  | 0, _ => rfl
  | k + 1, hk => by
    show SZ (va_up zs d x) k + va_up zs d x k = SZ zs k + zs k
    rw [SZ_up k (by omega), va_up_ne _ _ (by omega)]
theorem how3 (ln : Nat) (ac : Int32) : howF ln ac = -1 ∨ howF ln ac = 0 ∨ howF ln ac = 1 := by
  unfold howF
  by_cases h1 : ac < nI (ltA ln)
  · rw [if_pos h1]; exact Or.inl rfl
  · rw [if_neg h1]
    by_cases h2 : nI (gtA ln) < ac
    · rw [if_pos h2]; exact Or.inr (Or.inr rfl)
    · rw [if_neg h2]; exact Or.inr (Or.inl rfl)
theorem add3 (a b c : Nat) : nI a + nI b + nI c = nI (a + b + c) := by rw [nI_add, nI_add]
/-- what borneOut counts, as a number -/
theorem bc_r (S : Nat → Nat → Int32) (zs : Nat → Nat) (d : Nat) : ∀ (n x y z : Nat), ∃ x' y' z', x' + y' + z' = x + y + z + min n (zs d) ∧ bcR S zs (-1) d (nI x) n = nI x' ∧ bcR S zs 0 d (nI y) n = nI y' ∧ bcR S zs 1 d (nI z) n = nI z'
  | 0, x, y, z => ⟨x, y, z, by omega, rfl, rfl, rfl⟩
  | n + 1, x, y, z => by
    obtain ⟨x', y', z', h, e1, e2, e3⟩ := bc_r S zs d n x y z
    have f : ∀ (hw : Int32) (a : Int32), bcR S zs hw d a (n + 1) = if tellsN zs d n = 0 then bcR S zs hw d a n else if howF (lvS S d n) (S 23 (d * 6 + n)) = hw then bcR S zs hw d a n + 1 else bcR S zs hw d a n := fun _ _ => rfl
    rw [f, f, f, e1, e2, e3]
    by_cases c : n < zs d
    · have c2 : ¬ tellsN zs d n = 0 := by unfold tellsN; rw [if_pos c]; decide
      rw [if_neg c2, if_neg c2, if_neg c2]
      rcases how3 (lvS S d n) (S 23 (d * 6 + n)) with q | q | q <;> rw [q]
      · exact ⟨x' + 1, y', z', by omega, by rw [if_pos rfl]; exact nI_1 x', by rw [if_neg (by decide)], by rw [if_neg (by decide)]⟩
      · exact ⟨x', y' + 1, z', by omega, by rw [if_neg (by decide)], by rw [if_pos rfl]; exact nI_1 y', by rw [if_neg (by decide)]⟩
      · exact ⟨x', y', z' + 1, by omega, by rw [if_neg (by decide)], by rw [if_neg (by decide)], by rw [if_pos rfl]; exact nI_1 z'⟩
    · have c2 : tellsN zs d n = 0 := by unfold tellsN; rw [if_neg c]
      rw [if_pos c2, if_pos c2, if_pos c2]
      exact ⟨x', y', z', by omega, rfl, rfl, rfl⟩
theorem bc_d (S : Nat → Nat → Int32) (zs : Nat → Nat) (rn : Nat) (hz : ∀ k, zs k ≤ rn) : ∀ n, ∃ x y z, x + y + z = SZ zs n ∧ bcD S zs rn (-1) n = nI x ∧ bcD S zs rn 0 n = nI y ∧ bcD S zs rn 1 n = nI z
  | 0 => ⟨0, 0, 0, rfl, rfl, rfl, rfl⟩
  | n + 1 => by
    obtain ⟨x, y, z, h, e1, e2, e3⟩ := bc_d S zs rn hz n
    obtain ⟨x', y', z', h', f1, f2, f3⟩ := bc_r S zs n rn x y z
    have hzn := hz n
    refine ⟨x', y', z', ?_, ?_, ?_, ?_⟩
    · show _ = SZ zs n + zs n
      rw [h', h, Nat.min_eq_right hzn]
    · show bcR S zs (-1) n (bcD S zs rn (-1) n) rn = _
      rw [e1, f1]
    · show bcR S zs 0 n (bcD S zs rn 0 n) rn = _
      rw [e2, f2]
    · show bcR S zs 1 n (bcD S zs rn 1 n) rn = _
      rw [e3, f3]
theorem bc_all (S : Nat → Nat → Int32) (zs : Nat → Nat) (rn n : Nat) (hz : ∀ k, zs k ≤ rn) : bcD S zs rn (-1) n + bcD S zs rn 0 n + bcD S zs rn 1 n = nI (SZ zs n) := by
  obtain ⟨x, y, z, h, e1, e2, e3⟩ := bc_d S zs rn hz n
  rw [e1, e2, e3, add3, h]
/-! the rows of a bulletin -/
theorem pb_at3 (S : Nat → Nat → Int32) (dy r : Nat) : ∀ n : Nat, n ≤ 6 → r < n → pbD S dy n ((dy * 6 + r) * 3 + 0) = levA (S (3 + 2 * r)) ∧ pbD S dy n ((dy * 6 + r) * 3 + 1) = corD (S (3 + 2 * r)) ∧ pbD S dy n ((dy * 6 + r) * 3 + 2) = manD (S (3 + 2 * r))
  | 0, _, h => absurd h (by omega)
  | n + 1, hn, hr => by
    have e : ∀ k, pbD S dy (n + 1) k = upd (upd (upd (pbD S dy n) ((dy * 6 + n) * 3 + 0) (levA (S (3 + 2 * n)))) ((dy * 6 + n) * 3 + 1) (corD (S (3 + 2 * n)))) ((dy * 6 + n) * 3 + 2) (manD (S (3 + 2 * n))) k := fun _ => rfl
    rw [e, e, e]
    by_cases c : r = n
    · subst c
      refine ⟨?_, ?_, ?_⟩
      · rw [upd_ne (by omega), upd_ne (by omega), upd_at]
      · rw [upd_ne (by omega), upd_at]
      · rw [upd_at]
    · obtain ⟨i1, i2, i3⟩ := pb_at3 S dy r n (by omega) (by omega)
      refine ⟨?_, ?_, ?_⟩
      · rw [upd_ne (by omega), upd_ne (by omega), upd_ne (by omega)]; exact i1
      · rw [upd_ne (by omega), upd_ne (by omega), upd_ne (by omega)]; exact i2
      · rw [upd_ne (by omega), upd_ne (by omega), upd_ne (by omega)]; exact i3
/-! what holds of the desk while the law runs -/
def ST (S : Nat → Nat → Int32) (zs : Nat → Nat) (rn dy : Nat) : Prop :=
  (1 ≤ rn ∧ rn ≤ 4) ∧ (∀ r, r < 6 → okN (S (3 + 2 * r))) ∧ (∀ r, r < 6 → wok (S (2 + 2 * r) 2) (S (2 + 2 * r) 3) (S (2 + 2 * r) 4) (S (2 + 2 * r) 5)) ∧ (∀ k, zs k = 0 ∨ zs k = rn) ∧ (∀ k, dy < k → zs k = 0) ∧
  (∀ d r, d ≤ 60 → r < zs d → 1 ≤ lvS S d r ∧ lvS S d r ≤ 5 ∧ S 18 ((d * 6 + r) * 3 + 0) = nI (lvS S d r))
def FK (L : Nat → Int32) (zs : Nat → Nat) (rn : Nat) (f kp : Int32) : Prop :=
  f < 0 ∨ ∃ d, d ≤ 60 ∧ f = nI d ∧ zs d = rn ∧ kp = 100000 * L ((d * 6 + 0) * 3 + 0) + 10 * L ((d * 6 + 0) * 3 + 1) + L ((d * 6 + 0) * 3 + 2)
section STS
variable {S : Nat → Nat → Int32} {zs : Nat → Nat} {rn dy : Nat}
theorem ST.hz (h : ST S zs rn dy) : ∀ k, zs k ≤ rn := fun k => by rcases h.2.2.2.1 k with e | e <;> omega
theorem ST.hz6 (h : ST S zs rn dy) : ∀ k, k ≤ 60 → zs k ≤ 6 := fun k _ => Nat.le_trans (h.hz k) (by have := h.1.2; omega)
theorem ST.weather (h : ST S zs rn dy) {r : Nat} (hr : r < 6) {a b c d : Int32} (hw : ¬ wthF a b c d = 0) : ST (va_up S (2 + 2 * r) (fF 1 a b c d)) zs rn dy := by
  obtain ⟨h0, hN, hW, hz, hd, hL⟩ := h
  refine ⟨h0, fun q hq => ?_, fun q hq => ?_, hz, hd, fun q k hq hk => ?_⟩
  · rw [va_up_ne _ _ (by omega)]; exact hN q hq
  · by_cases e : q = r
    · subst e; rw [va_up_self]; exact wok_of hw
    · rw [va_up_ne _ _ (by omega)]; exact hW q hq
  · have := hL q k hq hk
    unfold lvS at this ⊢
    rw [va_up_ne _ _ (by omega)]; exact this
theorem ST.see (h : ST S zs rn dy) (A B C D : Nat → Int32) : ST (va_up (va_up (va_up (va_up S 20 A) 21 B) 22 C) 23 D) zs rn dy := by
  obtain ⟨h0, hN, hW, hz, hd, hL⟩ := h
  have e : ∀ k, k < 20 → va_up (va_up (va_up (va_up S 20 A) 21 B) 22 C) 23 D k = S k := fun k hk => by rw [va_up_ne _ _ (by omega), va_up_ne _ _ (by omega), va_up_ne _ _ (by omega), va_up_ne _ _ (by omega)]
  refine ⟨h0, fun q hq => ?_, fun q hq => ?_, hz, hd, fun q k hq hk => ?_⟩
  · rw [e _ (by omega)]; exact hN q hq
  · rw [e _ (by omega)]; exact hW q hq
  · have := hL q k hq hk
    unfold lvS at this ⊢
    rw [e _ (by omega)]; exact this
theorem ST.publish (h : ST S zs rn dy) (h60 : dy ≤ 60) : ST (va_up S 18 (pbD S dy rn)) (va_up zs dy rn) rn dy := by
  have hzl := h.hz
  obtain ⟨⟨h1, h4⟩, hN, hW, hz, hd, hL⟩ := h
  refine ⟨⟨h1, h4⟩, fun q hq => ?_, fun q hq => ?_, fun k => ?_, fun k hk => ?_, fun d r hd hr => ?_⟩
  · rw [va_up_ne _ _ (by omega)]; exact hN q hq
  · rw [va_up_ne _ _ (by omega)]; exact hW q hq
  · by_cases e : k = dy
    · subst e; rw [va_up_self]; exact Or.inr rfl
    · rw [va_up_ne _ _ e]; exact hz k
  · rw [va_up_ne _ _ (by omega)]; exact hd k hk
  · unfold lvS
    rw [va_up_self]
    by_cases e : d = dy
    · subst e
      rw [va_up_self] at hr
      obtain ⟨z, z1, z5, ez⟩ := lev15 (S (3 + 2 * r))
      rw [pb_at S d r rn (by omega) hr, ez, nI_clamp (show z < 2 ^ 31 by omega)]
      exact ⟨z1, z5, rfl⟩
    · rw [va_up_ne _ _ e] at hr
      have hzr := hzl d
      rw [pb_off S dy _ rn (by omega) (by omega)]
      exact hL d r hd hr
theorem ST.end (h : ST S zs rn dy) : ST (dES S rn) zs rn (dy + 1) ∧ dES S rn 18 = S 18 := by
  obtain ⟨⟨h1, h4⟩, hN, hW, hz, hd, hL⟩ := h
  obtain ⟨e1, e2, e3⟩ := end_ok hN hW rn (by omega)
  refine ⟨⟨⟨h1, h4⟩, e1, e2, hz, fun k hk => hd k (by omega), fun d r hd hr => ?_⟩, e3 18 (by omega)⟩
  have := hL d r hd hr
  unfold lvS at this ⊢
  rw [e3 18 (by omega)]; exact this
theorem ST.next (h : ST S zs rn dy) (h0 : zs dy = 0) : SZ zs (dy + 1) = SZ zs dy := by
  show SZ zs dy + zs dy = _
  rw [h0]; rfl
theorem FK.publish {f kp : Int32} (h : FK (S 18) zs rn f kp) (h0 : zs dy = 0) (hr : 1 ≤ rn) (h6 : rn ≤ 4) : FK (pbD S dy rn) (va_up zs dy rn) rn f kp := by
  rcases h with h | ⟨d, hd, e, ez, ek⟩
  · exact Or.inl h
  · have hne : d ≠ dy := fun q => by subst q; omega
    refine Or.inr ⟨d, hd, e, by rw [va_up_ne _ _ hne]; exact ez, ?_⟩
    rw [pb_off S dy _ rn (by omega) (by omega), pb_off S dy _ rn (by omega) (by omega), pb_off S dy _ rn (by omega) (by omega)]
    exact ek
theorem FK.first (hr : 1 ≤ rn) (h6 : rn ≤ 4) (h60 : dy ≤ 60) : FK (pbD S dy rn) (va_up zs dy rn) rn (nI dy) (100000 * levA (S (3 + 2 * 0)) + 10 * corD (S (3 + 2 * 0)) + manD (S (3 + 2 * 0))) := by
  obtain ⟨i1, i2, i3⟩ := pb_at3 S dy 0 rn (by omega) (by omega)
  exact Or.inr ⟨dy, h60, rfl, va_up_self _ _ _, by rw [i1, i2, i3]⟩
end STS
theorem ST_0 {rn : Nat} (h1 : 1 ≤ rn) (h4 : rn ≤ 4) : ST S0 (fun _ => 0) rn 0 := by
  refine ⟨⟨h1, h4⟩, fun r hr => ?_, fun r hr => ?_, fun _ => Or.inl rfl, fun _ _ => rfl, fun d r _ hr => absurd hr (Nat.not_lt_zero _)⟩
  · rcases (show r = 0 ∨ r = 1 ∨ r = 2 ∨ r = 3 ∨ r = 4 ∨ r = 5 by omega) with rfl | rfl | rfl | rfl | rfl | rfl <;> exact ok_0
  · rcases (show r = 0 ∨ r = 1 ∨ r = 2 ∨ r = 3 ∨ r = 4 ∨ r = 5 by omega) with rfl | rfl | rfl | rfl | rfl | rfl <;> exact wok_calm
/-! inCore lies between 0 and 1 -/
theorem icB_nat (S : Nat → Nat → Int32) (zs : Nat → Nat) (r : Nat) : ∀ k, ∃ n, n ≤ icA S zs r k ∧ icB S zs r k = nI n
  | 0 => ⟨0, Nat.le_refl _, rfl⟩
  | k + 1 => by
    obtain ⟨n, hn, e⟩ := icB_nat S zs r k
    show ∃ n, n ≤ (if S 21 k = nI r then (if tellsF zs (S 20 k) (nI r) = 0 then icA S zs r k else icA S zs r k + 1) else icA S zs r k) ∧ (if S 21 k = nI r then (if tellsF zs (S 20 k) (nI r) = 0 then icB S zs r k else icB S zs r k + bitF (S 18 (((S 20 k).toNatClampNeg * 6 + r) * 3 + 1)) (S 22 k)) else icB S zs r k) = nI n
    rw [e]
    by_cases c : S 21 k = nI r
    · rw [if_pos c, if_pos c]
      by_cases c2 : tellsF zs (S 20 k) (nI r) = 0
      · rw [if_pos c2, if_pos c2]; exact ⟨n, hn, rfl⟩
      · rw [if_neg c2, if_neg c2]
        rcases bit01 (S 18 (((S 20 k).toNatClampNeg * 6 + r) * 3 + 1)) (S 22 k) with q | q <;> rw [q]
        · exact ⟨n, by omega, Int32.add_zero _⟩
        · exact ⟨n + 1, by omega, nI_1 n⟩
    · rw [if_neg c, if_neg c]; exact ⟨n, hn, rfl⟩
def rg01 (x : UInt64) : Prop := ¬ Op.cmpValue (FP.dcmp x FP.dconst0) .g < 0 ∧ ¬ 0 < Op.cmpValue (FP.dcmp x FP.dconst1) .l
theorem rg_one : rg01 FP.dconst1 := by unfold rg01; decide +kernel
theorem rg_div : ∀ a, a < 73 → ∀ b, b < a + 1 → ¬ a = 0 → ¬ Op.cmpValue (FP.dcmp (FP.ddiv (FP.i2d (nI b)) (FP.i2d (nI a))) FP.dconst0) .g < 0 ∧ ¬ 0 < Op.cmpValue (FP.dcmp (FP.ddiv (FP.i2d (nI b)) (FP.i2d (nI a))) FP.dconst1) .l := by decide +kernel
theorem ic_rng (S : Nat → Nat → Int32) (zs : Nat → Nat) (r n : Nat) (hn : n < 73) : rg01 (icR S zs r n) := by
  unfold icR
  by_cases h : icA S zs r n = 0
  · rw [if_pos h]; exact rg_one
  · rw [if_neg h]
    obtain ⟨b, hb, e⟩ := icB_nat S zs r n
    have hA := icA_le S zs r n
    rw [e]
    exact rg_div (icA S zs r n) (by omega) b (by omega) h
