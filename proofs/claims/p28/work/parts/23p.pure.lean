/-! the desk and the reference compute the same: dangers, levels, cores, problems -/
theorem mxT (x y : Int32) : (x.toInt < y.toInt ∧ mx x y = y) ∨ (y.toInt ≤ x.toInt ∧ mx x y = x) := by
  unfold mx
  by_cases h : x < y
  · exact Or.inl ⟨Int32.lt_iff_toInt_lt.mp h, if_pos h⟩
  · refine Or.inr ⟨?_, if_neg h⟩
    rw [Int32.lt_iff_toInt_lt] at h
    omega
theorem mnT (x y : Int32) : (y.toInt < x.toInt ∧ mn x y = y) ∨ (x.toInt ≤ y.toInt ∧ mn x y = x) := by
  unfold mn
  by_cases h : y < x
  · exact Or.inl ⟨Int32.lt_iff_toInt_lt.mp h, if_pos h⟩
  · refine Or.inr ⟨?_, if_neg h⟩
    rw [Int32.lt_iff_toInt_lt] at h
    omega
theorem mn_comm (x y : Int32) : mn x y = mn y x := by
  rcases mnT x y with ⟨h1, e1⟩ | ⟨h1, e1⟩ <;> rcases mnT y x with ⟨h2, e2⟩ | ⟨h2, e2⟩ <;> rw [e1, e2]
  · omega
  · exact Int32.toInt_inj.mp (by omega)
theorem dgAM (r r' : Nat → Int32) (h : ∀ p, p < 4 → prR r p = prR r' p) : ∀ p, p ≤ 4 → dgA r p = dgM r' p ∧ (dgA r p).2.toInt ≤ (dgA r p).1.toInt
  | 0, _ => ⟨rfl, Int.le_refl _⟩
  | p + 1, hp => by
    obtain ⟨e, hle⟩ := dgAM r r' h p (by omega)
    have hx := h p (by omega)
    show (mx (dgA r p).1 (prR r p), mx (dgA r p).2 (mn (prR r p) (dgA r p).1)) = (mx (dgM r' p).1 (prR r' p), if prR r' p < (dgM r' p).1 then mx (dgM r' p).2 (prR r' p) else (dgM r' p).1) ∧ (mx (dgA r p).2 (mn (prR r p) (dgA r p).1)).toInt ≤ (mx (dgA r p).1 (prR r p)).toInt
    rw [← e, ← hx]
    generalize (dgA r p).1 = a at hle ⊢
    generalize (dgA r p).2 = b at hle ⊢
    generalize prR r p = x
    by_cases hxa : x < a
    · have h0 := Int32.lt_iff_toInt_lt.mp hxa
      have e1 : mn x a = x := by
        rcases mnT x a with ⟨h1, e1⟩ | ⟨h1, e1⟩
        · omega
        · exact e1
      rw [if_pos hxa, e1]
      refine ⟨rfl, ?_⟩
      rcases mxT b x with ⟨h1, e1⟩ | ⟨h1, e1⟩ <;> rcases mxT a x with ⟨h2, e2⟩ | ⟨h2, e2⟩ <;> rw [e1, e2] <;> omega
    · have h0 : ¬ x.toInt < a.toInt := fun q => hxa (Int32.lt_iff_toInt_lt.mpr q)
      have e1 : mn x a = a := by
        rcases mnT x a with ⟨h1, e1⟩ | ⟨h1, e1⟩
        · exact e1
        · rw [e1]; exact Int32.toInt_inj.mp (by omega)
      have e2 : mx b a = a := by
        rcases mxT b a with ⟨h1, e1⟩ | ⟨h1, e1⟩
        · exact e1
        · rw [e1]; exact Int32.toInt_inj.mp (by omega)
      rw [if_neg hxa, e1, e2]
      refine ⟨rfl, ?_⟩
      rcases mxT a x with ⟨h2, e2⟩ | ⟨h2, e2⟩ <;> rw [e2] <;> omega
theorem pr_congr (a b : Nat → Int32) (h : ∀ q, q < 5 → a q = b q) (p : Nat) (hp : p < 4) : prR a p = prR b p := by
  unfold prR
  rw [h p (by omega), h 0 (by omega), h 1 (by omega)]
theorem dngAM (a b : Nat → Int32) (h : ∀ q, q < 5 → a q = b q) : dngA a = dngM b := by
  unfold dngA dngM
  rw [(dgAM a b (pr_congr a b h) 4 (Nat.le_refl 4)).1]
theorem row_eq {N f : Nat → Int32} {fr : Nat} (hN : ∀ k, k < 60 → N k = f (fr + k)) {s q : Nat} (hs : s < 12) (hq : q < 5) : rw5 N s q = rwM f (fr + 5 * s) q := by
  show N (s * 5 + q) = f (fr + 5 * s + q)
  rw [hN (s * 5 + q) (by omega), show fr + 5 * s + q = fr + (s * 5 + q) by omega]
theorem dng_eq {N f : Nat → Int32} {fr : Nat} (hN : ∀ k, k < 60 → N k = f (fr + k)) {s : Nat} (hs : s < 12) : dngA (rw5 N s) = dngM (rwM f (fr + 5 * s)) :=
  dngAM _ _ fun _ hq => row_eq hN hs hq
def cA (x : Nat → Int32) (t : Int) : Nat → Nat
  | 0 => 0
  | s + 1 => if (x s).toInt < t then cA x t s else cA x t s + 1
theorem cA_congr {x y : Nat → Int32} (t : Int) : ∀ n : Nat, (∀ s, s < n → x s = y s) → cA x t n = cA y t n
  | 0, _ => rfl
  | n + 1, h => by
    show (if (x n).toInt < t then cA x t n else cA x t n + 1) = (if (y n).toInt < t then cA y t n else cA y t n + 1)
    rw [cA_congr t n (fun s hs => h s (by omega)), h n (by omega)]
theorem cA_le (x : Nat → Int32) (t : Int) : ∀ n : Nat, cA x t n ≤ n
  | 0 => Nat.le_refl 0
  | n + 1 => by
    have := cA_le x t n
    show (if (x n).toInt < t then cA x t n else cA x t n + 1) ≤ n + 1
    split <;> omega
theorem flA_c (N : Nat → Int32) (t : Int) (ht : 0 < t) : ∀ s : Nat, (flA N s).2.toInt ≤ (flA N s).1.toInt ∧ (t ≤ (flA N s).1.toInt ↔ 1 ≤ cA (fun k => dngA (rw5 N k)) t s) ∧ (t ≤ (flA N s).2.toInt ↔ 2 ≤ cA (fun k => dngA (rw5 N k)) t s)
  | 0 => by
    have h0 : ((0 : Int32)).toInt = 0 := by decide
    refine ⟨Int.le_refl _, ?_, ?_⟩
    · show t ≤ ((0 : Int32)).toInt ↔ 1 ≤ 0
      rw [h0]; omega
    · show t ≤ ((0 : Int32)).toInt ↔ 2 ≤ 0
      rw [h0]; omega
  | s + 1 => by
    obtain ⟨h1, h2, h3⟩ := flA_c N t ht s
    have hc : cA (fun k => dngA (rw5 N k)) t (s + 1) = if (dngA (rw5 N s)).toInt < t then cA (fun k => dngA (rw5 N k)) t s else cA (fun k => dngA (rw5 N k)) t s + 1 := rfl
    rw [hc]
    show (mx (flA N s).2 (mn (dngA (rw5 N s)) (flA N s).1)).toInt ≤ (mx (flA N s).1 (dngA (rw5 N s))).toInt ∧ (t ≤ (mx (flA N s).1 (dngA (rw5 N s))).toInt ↔ _) ∧ (t ≤ (mx (flA N s).2 (mn (dngA (rw5 N s)) (flA N s).1)).toInt ↔ _)
    generalize (flA N s).1 = a at h1 h2 h3 ⊢
    generalize (flA N s).2 = b at h1 h2 h3 ⊢
    generalize cA (fun k => dngA (rw5 N k)) t s = c at h2 h3 ⊢
    generalize dngA (rw5 N s) = d
    by_cases hd : d.toInt < t
    · rw [if_pos hd]
      rcases mnT d a with ⟨u1, u2⟩ | ⟨u1, u2⟩ <;> rw [u2]
      · rcases mxT b a with ⟨v1, v2⟩ | ⟨v1, v2⟩ <;> rcases mxT a d with ⟨w1, w2⟩ | ⟨w1, w2⟩ <;> rw [v2, w2] <;> refine ⟨by omega, ⟨fun _ => by omega, fun _ => by omega⟩, ⟨fun _ => by omega, fun _ => by omega⟩⟩
      · rcases mxT b d with ⟨v1, v2⟩ | ⟨v1, v2⟩ <;> rcases mxT a d with ⟨w1, w2⟩ | ⟨w1, w2⟩ <;> rw [v2, w2] <;> refine ⟨by omega, ⟨fun _ => by omega, fun _ => by omega⟩, ⟨fun _ => by omega, fun _ => by omega⟩⟩
    · rw [if_neg hd]
      rcases mnT d a with ⟨u1, u2⟩ | ⟨u1, u2⟩ <;> rw [u2]
      · rcases mxT b a with ⟨v1, v2⟩ | ⟨v1, v2⟩ <;> rcases mxT a d with ⟨w1, w2⟩ | ⟨w1, w2⟩ <;> rw [v2, w2] <;> refine ⟨by omega, ⟨fun _ => by omega, fun _ => by omega⟩, ⟨fun _ => by omega, fun _ => by omega⟩⟩
      · rcases mxT b d with ⟨v1, v2⟩ | ⟨v1, v2⟩ <;> rcases mxT a d with ⟨w1, w2⟩ | ⟨w1, w2⟩ <;> rw [v2, w2] <;> refine ⟨by omega, ⟨fun _ => by omega, fun _ => by omega⟩, ⟨fun _ => by omega, fun _ => by omega⟩⟩
theorem i_ltL {x : Int32} (n : Nat) (hn : n < 2147483648) : x < nI n ↔ x.toInt < (n : Int) := by rw [Int32.lt_iff_toInt_lt, nI_toInt hn]
theorem lvD_c (d : Int32) : (d.toInt < 10 ∧ lvD d = 1) ∨ (10 ≤ d.toInt ∧ d.toInt < 30 ∧ lvD d = 2) ∨ (30 ≤ d.toInt ∧ d.toInt < 55 ∧ lvD d = 3) ∨ (55 ≤ d.toInt ∧ d.toInt < 80 ∧ lvD d = 4) ∨ (80 ≤ d.toInt ∧ lvD d = 5) := by
  have k1 : d < 10 ↔ d.toInt < 10 := i_ltL 10 (by decide)
  have k2 : d < 30 ↔ d.toInt < 30 := i_ltL 30 (by decide)
  have k3 : d < 55 ↔ d.toInt < 55 := i_ltL 55 (by decide)
  have k4 : d < 80 ↔ d.toInt < 80 := i_ltL 80 (by decide)
  unfold lvD
  by_cases h1 : d < 10
  · exact Or.inl ⟨k1.mp h1, if_pos h1⟩
  · by_cases h2 : d < 30
    · refine Or.inr (Or.inl ⟨?_, k2.mp h2, by rw [if_neg h1, if_pos h2]⟩)
      rw [k1] at h1; omega
    · by_cases h3 : d < 55
      · refine Or.inr (Or.inr (Or.inl ⟨?_, k3.mp h3, by rw [if_neg h1, if_neg h2, if_pos h3]⟩))
        rw [k2] at h2; omega
      · by_cases h4 : d < 80
        · refine Or.inr (Or.inr (Or.inr (Or.inl ⟨?_, k4.mp h4, by rw [if_neg h1, if_neg h2, if_neg h3, if_pos h4]⟩)))
          rw [k3] at h3; omega
        · refine Or.inr (Or.inr (Or.inr (Or.inr ⟨?_, by rw [if_neg h1, if_neg h2, if_neg h3, if_neg h4]⟩)))
          rw [k4] at h4; omega
theorem lvD_lt (d : Int32) : (lvD d < 5 ↔ d.toInt < 80) ∧ (lvD d < 4 ↔ d.toInt < 55) ∧ (lvD d < 3 ↔ d.toInt < 30) ∧ (lvD d < 2 ↔ d.toInt < 10) := by
  rcases lvD_c d with ⟨h1, e⟩ | ⟨h1, h2, e⟩ | ⟨h1, h2, e⟩ | ⟨h1, h2, e⟩ | ⟨h1, e⟩ <;> rw [e] <;> refine ⟨⟨fun q => ?_, fun q => ?_⟩, ⟨fun q => ?_, fun q => ?_⟩, ⟨fun q => ?_, fun q => ?_⟩, ⟨fun q => ?_, fun q => ?_⟩⟩ <;> first | omega | decide | exact absurd q (by decide)
theorem mcM_c (f : Nat → Int32) (fr : Nat) (lv : Int32) (t : Int) (hl : ∀ d : Int32, lvD d < lv ↔ d.toInt < t) : ∀ s : Nat, mcM f fr lv s = nI (cA (fun k => dngM (rwM f (fr + 5 * k))) t s)
  | 0 => rfl
  | s + 1 => by
    show mcM f fr lv s + (if lvD (dngM (rwM f (fr + 5 * s))) < lv then 0 else 1) = nI (if (dngM (rwM f (fr + 5 * s))).toInt < t then cA (fun k => dngM (rwM f (fr + 5 * k))) t s else cA (fun k => dngM (rwM f (fr + 5 * k))) t s + 1)
    rw [mcM_c f fr lv t hl s]
    by_cases h : lvD (dngM (rwM f (fr + 5 * s))) < lv
    · rw [if_pos h, if_pos ((hl _).mp h)]; exact Int32.add_zero _
    · rw [if_neg h, if_neg (fun q => h ((hl _).mpr q))]; exact nI_1 _
theorem lev_eq {N f : Nat → Int32} {fr : Nat} (hN : ∀ k, k < 60 → N k = f (fr + k)) : levA N = lvM f fr := by
  have key : ∀ (lv : Int32) (t : Int), 0 < t → (∀ d : Int32, lvD d < lv ↔ d.toInt < t) → (mcM f fr lv 12 < 2 ↔ (flA N 12).2.toInt < t) := by
    intro lv t ht hl
    rw [mcM_c f fr lv t hl 12, ← cA_congr t 12 (fun s hs => dng_eq hN hs)]
    have h3 := (flA_c N t ht 12).2.2
    have hle := cA_le (fun k => dngA (rw5 N k)) t 12
    have h4 : nI (cA (fun k => dngA (rw5 N k)) t 12) < 2 ↔ cA (fun k => dngA (rw5 N k)) t 12 < 2 := nI_ltI (by omega) (by decide)
    rw [h4]
    constructor
    · intro q; omega
    · intro q; omega
  have k5 := key 5 80 (by decide) (fun d => (lvD_lt d).1)
  have k4 := key 4 55 (by decide) (fun d => (lvD_lt d).2.1)
  have k3 := key 3 30 (by decide) (fun d => (lvD_lt d).2.2.1)
  have k2 := key 2 10 (by decide) (fun d => (lvD_lt d).2.2.2)
  unfold levA lvM
  rcases lvD_c (flA N 12).2 with ⟨h1, e⟩ | ⟨h1, h2, e⟩ | ⟨h1, h2, e⟩ | ⟨h1, h2, e⟩ | ⟨h1, e⟩ <;> rw [e]
  · rw [if_pos (k5.mpr (by omega)), if_pos (k4.mpr (by omega)), if_pos (k3.mpr (by omega)), if_pos (k2.mpr (by omega))]
  · rw [if_pos (k5.mpr (by omega)), if_pos (k4.mpr (by omega)), if_pos (k3.mpr (by omega)), if_neg (fun q => by have := k2.mp q; omega)]
  · rw [if_pos (k5.mpr (by omega)), if_pos (k4.mpr (by omega)), if_neg (fun q => by have := k3.mp q; omega)]
  · rw [if_pos (k5.mpr (by omega)), if_neg (fun q => by have := k4.mp q; omega)]
  · rw [if_neg (fun q => by have := k5.mp q; omega)]
/-- what the desk's numbers of region r are in the reference's -/
def rel (N f : Nat → Int32) (r : Nat) : Prop := ∀ k, k < 60 → N k = f (60 * r + k)
theorem rel.fr {N f : Nat → Int32} {r : Nat} (h : rel N f r) : ∀ k, k < 60 → N k = f ((12 * r + 0) * 5 + k) := fun k hk => by rw [h k hk, show (12 * r + 0) * 5 + k = 60 * r + k by omega]
theorem rel.dng {N f : Nat → Int32} {r : Nat} (h : rel N f r) {s : Nat} (hs : s < 12) : dngA (rw5 N s) = dngM (rwM f ((12 * r + s) * 5)) := by
  rw [dng_eq h.fr hs, show (12 * r + 0) * 5 + 5 * s = (12 * r + s) * 5 by omega]
theorem rel.row {N f : Nat → Int32} {r : Nat} (h : rel N f r) {s q : Nat} (hs : s < 12) (hq : q < 5) : rw5 N s q = rwM f ((12 * r + s) * 5) q := by
  rw [row_eq h.fr hs hq, show (12 * r + 0) * 5 + 5 * s = (12 * r + s) * 5 by omega]
theorem rel.lev {N f : Nat → Int32} {r : Nat} (h : rel N f r) : levA N = levM f r := lev_eq h.fr
theorem rel.cr {N f : Nat → Int32} {r : Nat} (h : rel N f r) (lv : Int32) : ∀ s : Nat, s ≤ 12 → crA N lv s = crM f r lv s
  | 0, _ => rfl
  | s + 1, hs => by
    show (if lvD (dngA (rw5 N s)) < lv then crA N lv s else crA N lv s ||| (1 <<< (nI s &&& 31))) = (if lvD (dngM (rwM f ((12 * r + s) * 5))) < lv then crM f r lv s else crM f r lv s ||| (1 <<< (nI s &&& 31)))
    rw [h.dng (show s < 12 by omega), rel.cr h lv s (by omega)]
theorem rel.cor {N f : Nat → Int32} {r : Nat} (h : rel N f r) : corD N = corM f r := by
  unfold corD corM
  rw [h.lev, h.cr _ 12 (Nat.le_refl _)]
theorem bit01 (x i : Int32) : bitF x i = 0 ∨ bitF x i = 1 := by
  unfold bitF
  generalize x >>> (i &&& 31) = y
  have h1 : (y.toBitVec &&& 1#32).toNat = y.toBitVec.toNat % 2 := by rw [BitVec.toNat_and]; exact Nat.and_one_is_mod _
  rcases Nat.mod_two_eq_zero_or_one y.toBitVec.toNat with q | q
  · left; exact Int32.toBitVec_inj.mp (BitVec.eq_of_toNat_eq (by rw [Int32.toBitVec_and]; exact h1.trans q))
  · right; exact Int32.toBitVec_inj.mp (BitVec.eq_of_toNat_eq (by rw [Int32.toBitVec_and]; exact h1.trans q))
theorem rel.sm {N f : Nat → Int32} {r : Nat} (h : rel N f r) (co : Int32) (p : Nat) (hp : p < 4) : ∀ s : Nat, s ≤ 12 → smA N co p s = smM f r co p s
  | 0, _ => rfl
  | s + 1, hs => by
    show smA N co p s + bitF co (nI s) * prR (rw5 N s) p = smM f r co p s + (if bitF co (nI s) = 1 then prR (rwM f ((12 * r + s) * 5)) p else 0)
    rw [rel.sm h co p hp s (by omega), pr_congr _ _ (fun q hq => h.row (show s < 12 by omega) hq) p hp]
    rcases bit01 co (nI s) with e | e <;> rw [e]
    · rw [if_neg (by decide), Int32.zero_mul]
    · rw [if_pos rfl, Int32.one_mul]
theorem rel.fp {N f : Nat → Int32} {r : Nat} (h : rel N f r) (co : Int32) : ∀ p : Nat, p ≤ 4 → fpA N co p = fpM f r co p
  | 0, _ => rfl
  | p + 1, hp => by
    show (if (fpA N co p).2 < smA N co p 12 then (nI p, smA N co p 12) else fpA N co p) = (if (fpM f r co p).2 < smM f r co p 12 then (nI p, smM f r co p 12) else fpM f r co p)
    rw [rel.fp h co p (by omega), h.sm co p (by omega) 12 (Nat.le_refl _)]
theorem rel.man {N f : Nat → Int32} {r : Nat} (h : rel N f r) : manD N = manM f r := by
  unfold manD manM
  rw [h.cor, h.fp _ 4 (Nat.le_refl _)]
/-! routes -/
theorem ws_eq {N f : Nat → Int32} {r : Nat} (h : rel N f r) (a b : Nat → Int32) : ∀ k : Nat, k < 2147483648 → 0 < k → wsF (levA N) (corD N) a b k = (nI (wkM f r a b k), rkM f r (a (wkM f r a b k)) (b (wkM f r a b k)))
  | 0, _, h0 => absurd h0 (by omega)
  | k + 1, hk, _ => by
    by_cases h0 : k = 0
    · subst h0
      show (if (-1 : Int32) < 0 then (nI 0, rkF (levA N) (corD N) (a 0) (b 0)) else _) = _
      rw [if_pos (by decide), h.lev, h.cor]; rfl
    · have ih := ws_eq h a b k (by omega) (by omega)
      have hw := wkM_lt f r a b k (by omega)
      have e1 : wkM f r a b (k + 1) = if rkM f r (a (wkM f r a b k)) (b (wkM f r a b k)) < rkM f r (a k) (b k) then k else wkM f r a b k := by
        show (if k = 0 then k else _) = _
        rw [if_neg h0]
      have e2 : wsF (levA N) (corD N) a b (k + 1) = if (wsF (levA N) (corD N) a b k).1 < 0 then (nI k, rkF (levA N) (corD N) (a k) (b k)) else if (wsF (levA N) (corD N) a b k).2 < rkF (levA N) (corD N) (a k) (b k) then (nI k, rkF (levA N) (corD N) (a k) (b k)) else wsF (levA N) (corD N) a b k := rfl
      rw [e2, e1, ih, h.lev, h.cor]
      have h9 : ¬ nI (wkM f r a b k) < 0 := nI_pos (by omega)
      show (if nI (wkM f r a b k) < 0 then _ else if rkM f r (a (wkM f r a b k)) (b (wkM f r a b k)) < rkM f r (a k) (b k) then (nI k, rkM f r (a k) (b k)) else (nI (wkM f r a b k), rkM f r (a (wkM f r a b k)) (b (wkM f r a b k)))) = _
      rw [if_neg h9]
      by_cases hc : rkM f r (a (wkM f r a b k)) (b (wkM f r a b k)) < rkM f r (a k) (b k)
      · rw [if_pos hc, if_pos hc]
      · rw [if_neg hc, if_neg hc]
theorem wx_eq {N f : Nat → Int32} {r : Nat} (h : rel N f r) (a b : Nat → Int32) (k : Nat) (hk : k < 2147483648) : (wsF (levA N) (corD N) a b k).1 = wxM f r a b k := by
  cases k with
  | zero => rfl
  | succ k => rw [ws_eq h a b (k + 1) hk (by omega)]; rfl
theorem gRk_eq {N f : Nat → Int32} {r : Nat} (h : rel N f r) (a b : Nat → Int32) (k : Nat) (hk : k < 2147483648) (h0 : 0 < k) : gRk N a b k = mrM f a b k r := by
  unfold gRk mrM rkD
  rw [ws_eq h a b k hk h0]
  have hw := wkM_lt f r a b k h0
  show (if nI (wkM f r a b k) < 0 then 0 else rkF (levA N) (corD N) (a (nI (wkM f r a b k)).toNatClampNeg) (b (nI (wkM f r a b k)).toNatClampNeg)) = _
  rw [if_neg (nI_pos (by omega)), nI_clamp (by omega), h.lev, h.cor]; rfl
theorem br_eq {S : Nat → Nat → Int32} {f : Nat → Int32} (h : ∀ r, r < 6 → rel (S (3 + 2 * r)) f r) (k : Nat) (hk : k < 2147483648) (h0 : 0 < k) : ∀ n : Nat, n ≤ 6 → 0 < n → brF S k n = (nI (bkM f (S 25) (S 26) k n), mrM f (S 25) (S 26) k (bkM f (S 25) (S 26) k n))
  | 0, _, q => absurd q (by omega)
  | n + 1, hn, _ => by
    have eg := gRk_eq (h n (by omega)) (S 25) (S 26) k hk h0
    have e2 : brF S k (n + 1) = if (brF S k n).1 < 0 then (nI n, gRk (S (3 + 2 * n)) (S 25) (S 26) k) else if gRk (S (3 + 2 * n)) (S 25) (S 26) k < (brF S k n).2 then (nI n, gRk (S (3 + 2 * n)) (S 25) (S 26) k) else brF S k n := rfl
    rw [e2, eg]
    by_cases hz : n = 0
    · subst hz
      show (if (-1 : Int32) < 0 then (nI 0, mrM f (S 25) (S 26) k 0) else _) = _
      rw [if_pos (by decide)]; rfl
    · have ih := br_eq h k hk h0 n (by omega) (by omega)
      have hb := bkM_lt f (S 25) (S 26) k n (by omega)
      have e1 : bkM f (S 25) (S 26) k (n + 1) = if mrM f (S 25) (S 26) k n < mrM f (S 25) (S 26) k (bkM f (S 25) (S 26) k n) then n else bkM f (S 25) (S 26) k n := by
        show (if n = 0 then n else _) = _
        rw [if_neg hz]
      rw [ih, e1]
      show (if nI (bkM f (S 25) (S 26) k n) < 0 then _ else if mrM f (S 25) (S 26) k n < mrM f (S 25) (S 26) k (bkM f (S 25) (S 26) k n) then (nI n, mrM f (S 25) (S 26) k n) else (nI (bkM f (S 25) (S 26) k n), mrM f (S 25) (S 26) k (bkM f (S 25) (S 26) k n))) = _
      rw [if_neg (nI_pos (by omega))]
      by_cases hc : mrM f (S 25) (S 26) k n < mrM f (S 25) (S 26) k (bkM f (S 25) (S 26) k n)
      · rw [if_pos hc, if_pos hc]
      · rw [if_neg hc, if_neg hc]
/-! a day: the desk's row by row, the reference's on five numbers -/
def okv (v : Int32) (g : Nat) : Prop := ∃ n, n ≤ g ∧ v = nI n
theorem ok_lit (n : Nat) : okv (nI n) n := ⟨n, Nat.le_refl _, rfl⟩
theorem ok_add {a b : Int32} {A B : Nat} (h : okv a A) (k : okv b B) : okv (a + b) (A + B) := by
  obtain ⟨n, hn, rfl⟩ := h
  obtain ⟨m, hm, rfl⟩ := k
  exact ⟨n + m, by omega, nI_add n m⟩
theorem ok_mul {a b : Int32} {A B : Nat} (h : okv a A) (k : okv b B) : okv (a * b) (A * B) := by
  obtain ⟨n, hn, rfl⟩ := h
  obtain ⟨m, hm, rfl⟩ := k
  exact ⟨n * m, Nat.mul_le_mul hn hm, (Int32.ofNat_mul n m).symm⟩
theorem ok_div {a : Int32} {A : Nat} (d : Nat) (h : okv a A) (hA : A < 2147483648) (h0 : 0 < d) (hd : d < 2147483648) : okv (a / nI d) A := by
  obtain ⟨n, hn, rfl⟩ := h
  exact ⟨n / d, Nat.le_trans (Nat.div_le_self n d) hn, pk_div (by omega) h0 hd⟩
theorem ok_frac {a : Int32} {A : Nat} (m d : Nat) (h : okv a A) (hA : A * m < 2147483648) (h0 : 0 < d) (hmd : m ≤ d) (hd : d < 2147483648) : okv (a * nI m / nI d) A := by
  obtain ⟨n, hn, rfl⟩ := h
  have h1 : n * m ≤ A * m := Nat.mul_le_mul_right m hn
  have h2 : nI n * nI m = nI (n * m) := (Int32.ofNat_mul n m).symm
  refine ⟨n * m / d, Nat.le_trans (Nat.div_le_of_le_mul ?_) hn, by rw [h2]; exact pk_div (by omega) h0 hd⟩
  rw [Nat.mul_comm d n]
  exact Nat.mul_le_mul_left n hmd
theorem ok_mono {a : Int32} {A B : Nat} (h : okv a A) (hAB : A ≤ B) : okv a B := by
  obtain ⟨n, hn, e⟩ := h
  exact ⟨n, Nat.le_trans hn hAB, e⟩
theorem ok_mn {v : Int32} {B : Nat} (g : Nat) (h : okv v B) (hB : B < 2147483648) (hg : g < 2147483648) : okv (mn (nI g) v) g := by
  obtain ⟨n, hn, rfl⟩ := h
  rcases mnT (nI g) (nI n) with ⟨h1, e⟩ | ⟨h1, e⟩ <;> rw [e]
  · rw [nI_toInt (show n < 2 ^ 31 by omega), nI_toInt (show g < 2 ^ 31 by omega)] at h1
    exact ⟨n, by omega, rfl⟩
  · exact ok_lit g
theorem nI_sub {a b : Nat} (h : b ≤ a) (ha : a < 1073741824) : nI a - nI b = nI (a - b) := by
  refine Int32.toInt_inj.mp ?_
  rw [pk_sub_toInt (by omega) (by omega), nI_toInt (by omega)]; omega
def gB (w : Nat) : Nat := if w = 4 then 10 else 100
theorem gr_eq {w : Nat} (hw : w < 5) : gr (nI w) = nI (gB w) := by
  rcases (show w = 0 ∨ w = 1 ∨ w = 2 ∨ w = 3 ∨ w = 4 by omega) with rfl | rfl | rfl | rfl | rfl <;> decide
theorem gB_lt (w : Nat) : gB w < 101 := by unfold gB; split <;> omega
/-- five numbers within their bounds -/
def Rg (f : Nat → Int32) : Prop := ∀ w, w < 5 → okv (f w) (gB w)
theorem Rg.up5 {f : Nat → Int32} (h : Rg f) (w : Nat) {v : Int32} (hv : okv v (gB w)) : Rg (upd f w v) := by
  intro q hq
  by_cases e : q = w
  · subst e
    have : upd f q v q = v := if_pos rfl
    rw [this]; exact hv
  · have : upd f w v q = f q := if_neg e
    rw [this]; exact h q hq
theorem Rg.mp5 {f : Nat → Int32} (h : Rg f) {w : Nat} (hw : w < 5) {v : Int32} {B : Nat} (hv : okv v B) (hB : B < 2147483648) : Rg (mP f w v) := by
  unfold mP
  refine h.up5 w ?_
  rw [gr_eq hw]
  have := gB_lt w
  exact ok_mn (gB w) hv hB (by omega)
theorem f80 : ∀ k, k < 101 → mn (gr (nI 1)) (nI k * 80 / 100) = nI k * 8 / 10 := by decide +kernel
theorem f70 : ∀ k, k < 101 → mn (gr (nI 2)) (nI k * 70 / 100) = nI k * 7 / 10 := by decide +kernel
theorem f95 : ∀ k, k < 101 → mn (gr (nI 2)) (nI k * 95 / 100) = nI k * 95 / 100 := by decide +kernel
theorem f50 : ∀ k, k < 101 → mn (gr (nI 3)) (nI k * 50 / 100) = nI k / 2 := by decide +kernel
theorem f00 : ∀ k, k < 101 → mn (gr (nI 1)) (nI k + 0) = nI k := by decide +kernel
theorem fturn : ∀ a, a < 4 → ∀ c, c < 4 → rm4 (nI a - nI c + 4) = fmF (nI a - nI c) := by decide +kernel
theorem ft1 : ∀ j, j < 46 → ∀ q, q < 3 → (nI j - nI 30) + 6 * (1 - nI q) = (nI j - nI 30) + 6 - nI (6 * q) := by decide +kernel
theorem ft2 : ∀ j, j < 46 → ∀ q, q < 3 → 0 < (nI j - nI 30) + 6 - nI (6 * q) → ((nI j - nI 30) + 6 - nI (6 * q)).toNatClampNeg ≤ 21 ∧ (nI j - nI 30) + 6 - nI (6 * q) = nI ((nI j - nI 30) + 6 - nI (6 * q)).toNatClampNeg := by decide +kernel
/-- a weather that isn't refused -/
theorem isIn_rng {v lo hi : Int32} (h : ¬ isInF v lo hi = 0) : lo.toInt ≤ v.toInt ∧ v.toInt ≤ hi.toInt := by
  unfold isInF at h
  by_cases h0 : v < lo
  · rw [if_pos h0] at h; exact absurd rfl h
  · rw [if_neg h0] at h
    by_cases h1 : hi < v
    · rw [if_pos h1] at h; exact absurd rfl h
    · rw [Int32.lt_iff_toInt_lt] at h0 h1; omega
theorem isIn_okv {v hi : Int32} (n : Nat) (hn : hi.toInt = n) (h : ¬ isInF v 0 hi = 0) : okv v n := by
  obtain ⟨h1, h2⟩ := isIn_rng h
  have h3 : ((0 : Int32)).toInt = 0 := by decide
  have h4 : ¬ v < 0 := fun q => by rw [Int32.lt_iff_toInt_lt] at q; omega
  obtain ⟨j, hj, rfl⟩ := nI_of h4
  rw [nI_toInt hj] at h2
  exact ⟨j, by omega, rfl⟩
def wok (sn wi fr te : Int32) : Prop := okv sn 150 ∧ okv wi 120 ∧ okv fr 3 ∧ ∃ j, j < 46 ∧ te = nI j - nI 30
theorem wok_of {sn wi fr te : Int32} (h : ¬ wthF sn wi fr te = 0) : wok sn wi fr te := by
  unfold wthF at h
  by_cases h1 : isInF sn 0 150 = 0
  · rw [if_pos h1] at h; exact absurd rfl h
  · rw [if_neg h1] at h
    by_cases h2 : isInF wi 0 120 = 0
    · rw [if_pos h2] at h; exact absurd rfl h
    · rw [if_neg h2] at h
      by_cases h3 : isInF fr 0 3 = 0
      · rw [if_pos h3] at h; exact absurd rfl h
      · rw [if_neg h3] at h
        by_cases h4 : isInF te (-30) 15 = 0
        · rw [if_pos h4] at h; exact absurd rfl h
        · obtain ⟨h5, h6⟩ := isIn_rng h4
          have e1 : ((-30 : Int32)).toInt = -30 := by decide
          have e2 : ((15 : Int32)).toInt = 15 := by decide
          refine ⟨isIn_okv 150 (by decide) h1, isIn_okv 120 (by decide) h2, isIn_okv 3 (by decide) h3, (te.toInt + 30).toNat, by omega, ?_⟩
          refine Int32.toInt_inj.mp ?_
          rw [pk_sub_toInt (by omega) (by omega)]; omega
theorem wok_calm : wok 0 0 0 (-5) := wok_of (by decide)
theorem tS_eq {te : Int32} (h : ∃ j, j < 46 ∧ te = nI j - nI 30) {s : Nat} (hs : s < 12) : tS te s = tM te s := by
  obtain ⟨j, hj, rfl⟩ := h
  exact ft1 j hj (s / 4) (by omega)
theorem tM_ok {te : Int32} (h : ∃ j, j < 46 ∧ te = nI j - nI 30) {s : Nat} (hs : s < 12) (ht : 0 < tM te s) : okv (tM te s) 21 := by
  obtain ⟨j, hj, rfl⟩ := h
  have := ft2 j hj (s / 4) (by omega) ht
  exact ⟨_, this.1, this.2⟩
theorem fall_ok {sn t : Int32} (h : okv sn 150) : okv (fallS sn t) 150 := by
  unfold fallS
  split
  · exact ⟨0, by omega, rfl⟩
  · exact h
/-! one row -/
theorem upd_own (f : Nat → Int32) (w : Nat) : upd f w (f w) = f := by
  funext q
  by_cases e : q = w
  · subst e; exact if_pos rfl
  · exact if_neg e
theorem rw5_upd (N : Nat → Int32) (s w : Nat) (y : Int32) : rw5 (upd N (s * 5 + w) y) s = upd (rw5 N s) w y := by
  funext p
  show (if s * 5 + p = s * 5 + w then y else N (s * 5 + p)) = (if p = w then y else N (s * 5 + p))
  by_cases e : p = w
  · rw [if_pos e, if_pos (by omega)]
  · rw [if_neg e, if_neg (by omega)]
theorem rw5_p (N : Nat → Int32) (s w : Nat) (x : Int32) : rw5 (pN N s w x) s = mP (rw5 N s) w x := by
  unfold pN mP
  rw [rw5_upd, mn_comm]
theorem rw5_g (N : Nat → Int32) (s w : Nat) (x : Int32) : rw5 (gN N s w x) s = mP (rw5 N s) w (rw5 N s w + x) := rw5_p N s w (N (s * 5 + w) + x)
theorem rw5_q (N : Nat → Int32) (s w : Nat) (x : Int32) : rw5 (qN N s w x) s = mP (rw5 N s) w (rw5 N s w * x / 100) := rw5_p N s w (N (s * 5 + w) * x / 100)
theorem mP4 (f : Nat → Int32) : mP f 4 0 = upd f 4 0 := by
  unfold mP
  rw [show mn (gr (nI 4)) 0 = 0 from by decide]
theorem row_settle (N : Nat → Int32) (s : Nat) (t fa sn : Int32) : rw5 (settleN N s t fa sn) s = go1 (rw5 N s) t fa sn := by
  unfold settleN go1
  by_cases h : 1 < t
  · rw [if_pos h, if_pos h, rw5_g, rw5_p]; rfl
  · rw [if_neg h, if_neg h, rw5_p]; rfl
theorem turn_eq (s : Nat) {fr : Int32} (h : okv fr 3) : turnS s fr = ofM s fr := by
  obtain ⟨c, hc, rfl⟩ := h
  exact fturn (s % 4) (by omega) c (by omega)
theorem row_blow (N : Nat → Int32) (s : Nat) (wi fr : Int32) (hR : Rg (rw5 N s)) (hfr : okv fr 3) : rw5 (blowN N s wi fr) s = go2 (rw5 N s) s wi fr := by
  obtain ⟨k, hk, ek⟩ := hR 1 (by decide)
  have hk : k ≤ 100 := hk
  unfold blowN go2 drM
  by_cases h : wi < 25
  · rw [if_pos h, if_pos h, rw5_q]
    show upd (rw5 N s) 1 (mn (gr (nI 1)) (rw5 N s 1 * 80 / 100)) = _
    rw [ek, f80 k (by omega)]
  · rw [if_neg h, if_neg h, turn_eq s hfr]
    by_cases h2 : ofM s fr = 2
    · rw [if_pos h2, if_neg (show ¬ ofM s fr = 0 by rw [h2]; decide), if_pos h2, rw5_g]; rfl
    · by_cases h3 : ofM s fr = 0
      · rw [if_neg h2, if_pos h3, if_pos h3]
        show rw5 N s = upd (rw5 N s) 1 (mn (gr (nI 1)) (rw5 N s 1 + 0))
        rw [ek, f00 k (by omega), ← ek]
        exact (upd_own _ _).symm
      · rw [if_neg h2, if_neg h3, if_neg h3, if_neg h2, rw5_g]; rfl
theorem row_bury (N : Nat → Int32) (s : Nat) (t fa wi : Int32) : rw5 (buryN N s t fa wi) s = go3 (rw5 N s) t fa wi := by
  unfold buryN go3
  by_cases h1 : fa < 10
  · rw [if_pos h1, if_pos h1]
    by_cases h2 : wi < 40
    · rw [if_pos h2, if_pos h2]
      by_cases h3 : 0 < t
      · rw [if_pos h3, if_pos h3, rw5_p, mP4]
      · rw [if_neg h3, if_neg h3]
        by_cases h4 : fa = 0
        · rw [if_pos h4, if_pos h4]
          by_cases h5 : wi < 15
          · rw [if_pos h5, if_pos h5]
            by_cases h6 : t < -8
            · rw [if_pos h6, if_pos h6, rw5_g]
            · rw [if_neg h6, if_neg h6]
          · rw [if_neg h5, if_neg h5]
        · rw [if_neg h4, if_neg h4]
    · rw [if_neg h2, if_neg h2, rw5_p, mP4]
  · rw [if_neg h1, if_neg h1, rw5_p, rw5_g, mP4]; rfl
theorem row_thaw (N : Nat → Int32) (s : Nat) (t : Int32) (hR : Rg (rw5 N s)) : rw5 (thawN N s t) s = go4 (rw5 N s) s t := by
  obtain ⟨k, hk, ek⟩ := hR 2 (by decide)
  have hk : k ≤ 100 := hk
  obtain ⟨i, hi, ei⟩ := hR 3 (by decide)
  have hi : i ≤ 100 := hi
  have e70 : mP (rw5 N s) 2 (rw5 N s 2 * 70 / 100) = upd (rw5 N s) 2 (rw5 N s 2 * 7 / 10) := by
    show upd (rw5 N s) 2 (mn (gr (nI 2)) (rw5 N s 2 * 70 / 100)) = _
    rw [ek, f70 k (by omega)]
  have e95 : mP (rw5 N s) 2 (rw5 N s 2 * 95 / 100) = upd (rw5 N s) 2 (rw5 N s 2 * 95 / 100) := by
    show upd (rw5 N s) 2 (mn (gr (nI 2)) (rw5 N s 2 * 95 / 100)) = _
    rw [ek, f95 k (by omega)]
  unfold thawN go4
  by_cases h : 0 < t
  · rw [if_pos h, if_pos h]
    by_cases h2 : s % 4 = 2
    · rw [if_pos h2, if_pos h2, rw5_g, rw5_q, e70]
    · rw [if_neg h2, if_neg h2, rw5_g, rw5_q, e70]
  · rw [if_neg h, if_neg h, rw5_q, rw5_q, e95]
    show upd (upd (rw5 N s) 2 (rw5 N s 2 * 95 / 100)) 3 (mn (gr (nI 3)) (rw5 N s 3 * 50 / 100)) = upd (upd (rw5 N s) 2 (rw5 N s 2 * 95 / 100)) 3 (rw5 N s 3 / 2)
    rw [ei, f50 i (by omega)]
theorem Rg1 {f : Nat → Int32} {t fa sn : Int32} (h : Rg f) (hf : okv fa 150) (hs : okv sn 150) : Rg (go1 f t fa sn) := by
  have h1 : Rg (mP f 0 (f 0 * 6 / 10 + fa)) := h.mp5 (by decide) (ok_add (ok_div 10 (ok_mul (h 0 (by decide)) (ok_lit 6)) (by decide) (by decide) (by decide)) hf) (by decide)
  unfold go1
  by_cases c : 1 < t
  · rw [if_pos c]
    exact h1.mp5 (by decide) (ok_add (h1 3 (by decide)) (ok_div 2 hs (by decide) (by decide) (by decide))) (by decide)
  · rw [if_neg c]; exact h1
theorem mo_ok {f : Nat → Int32} {wi : Int32} (h : Rg f) (hw : okv wi 120) (c : ¬ wi < 25) : okv (moM f wi) 4000 := by
  obtain ⟨b, hb, rfl⟩ := hw
  have hb2 : ¬ b < 25 := fun q => c ((nI_ltI (a := b) (b := 25) (by omega) (by decide)).mpr q)
  have h1 : okv (nI b - nI 20) 100 := ⟨b - 20, by omega, nI_sub (by omega) (by omega)⟩
  have h2 : okv (mn (f 0) (nI 40)) 40 := by rw [mn_comm]; exact ok_mn 40 (h 0 (by decide)) (by decide) (by decide)
  exact ok_div 40 (ok_mul h2 h1) (by decide) (by decide) (by decide)
theorem Rg2 {f : Nat → Int32} {s : Nat} {wi fr : Int32} (h : Rg f) (hw : okv wi 120) : Rg (go2 f s wi fr) := by
  unfold go2
  by_cases c : wi < 25
  · rw [if_pos c]
    exact h.up5 1 (ok_frac 8 10 (h 1 (by decide)) (by decide) (by decide) (by decide) (by decide))
  · rw [if_neg c]
    have hm := mo_ok h hw c
    have hd : okv (drM f s wi fr) 4000 := by
      unfold drM
      by_cases c1 : ofM s fr = 0
      · rw [if_pos c1]; exact ⟨0, by omega, rfl⟩
      · rw [if_neg c1]
        by_cases c2 : ofM s fr = 2
        · rw [if_pos c2]; exact hm
        · rw [if_neg c2]; exact ok_div 2 hm (by decide) (by decide) (by decide)
    exact h.mp5 (by decide) (ok_add (h 1 (by decide)) hd) (by decide)
theorem ok0 (g : Nat) : okv 0 g := ⟨0, Nat.zero_le _, rfl⟩
theorem Rg3 {f : Nat → Int32} {t fa wi : Int32} (h : Rg f) : Rg (go3 f t fa wi) := by
  unfold go3
  by_cases h1 : fa < 10
  · rw [if_pos h1]
    by_cases h2 : wi < 40
    · rw [if_pos h2]
      by_cases h3 : 0 < t
      · rw [if_pos h3]; exact h.up5 4 (ok0 _)
      · rw [if_neg h3]
        by_cases h4 : fa = 0
        · rw [if_pos h4]
          by_cases h5 : wi < 15
          · rw [if_pos h5]
            by_cases h6 : t < -8
            · rw [if_pos h6]; exact h.mp5 (by decide) (ok_add (h 4 (by decide)) (ok_lit 1)) (by decide)
            · rw [if_neg h6]; exact h
          · rw [if_neg h5]; exact h
        · rw [if_neg h4]; exact h
    · rw [if_neg h2]; exact h.up5 4 (ok0 _)
  · rw [if_neg h1]
    exact (h.mp5 (w := 2) (by decide) (ok_add (h 2 (by decide)) (ok_mul (ok_lit 15) (h 4 (by decide)))) (by decide)).up5 4 (ok0 _)
theorem Rg4 {f : Nat → Int32} {s : Nat} {t : Int32} (h : Rg f) (ht : 0 < t → okv t 21) : Rg (go4 f s t) := by
  unfold go4
  by_cases c : 0 < t
  · have h1 : Rg (upd f 2 (f 2 * 7 / 10)) := h.up5 2 (ok_frac 7 10 (h 2 (by decide)) (by decide) (by decide) (by decide) (by decide))
    rw [if_pos c]
    by_cases c2 : s % 4 = 2
    · rw [if_pos c2]; exact h1.mp5 (by decide) (ok_add (h1 3 (by decide)) (ok_mul (ok_lit 8) (ht c))) (by decide)
    · rw [if_neg c2]; exact h1.mp5 (by decide) (ok_add (h1 3 (by decide)) (ok_mul (ok_lit 4) (ht c))) (by decide)
  · have h1 : Rg (upd f 2 (f 2 * 95 / 100)) := h.up5 2 (ok_frac 95 100 (h 2 (by decide)) (by decide) (by decide) (by decide) (by decide))
    rw [if_neg c]
    exact h1.up5 3 (ok_div 2 (h1 3 (by decide)) (by decide) (by decide) (by decide))
theorem RgF {f : Nat → Int32} {s : Nat} {sn wi fr te : Int32} (h : Rg f) (hw : wok sn wi fr te) (hs : s < 12) : Rg (goF f s sn wi fr te) := by
  unfold goF
  exact Rg4 (Rg3 (Rg2 (Rg1 h (fall_ok hw.1) hw.1) hw.2.1)) (fun c => tM_ok hw.2.2.2 hs c)
theorem row_day (N : Nat → Int32) (s : Nat) {sn wi fr te : Int32} (hR : Rg (rw5 N s)) (hw : wok sn wi fr te) (hs : s < 12) : rw5 (dayN N s sn wi fr te) s = goF (rw5 N s) s sn wi fr te := by
  unfold dayN goF
  rw [tS_eq hw.2.2.2 hs]
  have e1 := row_settle N s (tM te s) (fallS sn (tM te s)) sn
  have r1 : Rg (rw5 (settleN N s (tM te s) (fallS sn (tM te s)) sn) s) := by rw [e1]; exact Rg1 hR (fall_ok hw.1) hw.1
  have e2 := row_blow _ s wi fr r1 hw.2.2.1
  have r2 : Rg (rw5 (blowN (settleN N s (tM te s) (fallS sn (tM te s)) sn) s wi fr) s) := by rw [e2]; exact Rg2 r1 hw.2.1
  have e3 := row_bury (blowN (settleN N s (tM te s) (fallS sn (tM te s)) sn) s wi fr) s (tM te s) (fallS sn (tM te s)) wi
  have r3 : Rg (rw5 (buryN (blowN (settleN N s (tM te s) (fallS sn (tM te s)) sn) s wi fr) s (tM te s) (fallS sn (tM te s)) wi) s) := by rw [e3]; exact Rg3 r2
  rw [row_thaw _ s (tM te s) r3, e3, e2, e1]
def offR (s : Nat) (N M : Nat → Int32) : Prop := ∀ k, (k < s * 5 ∨ s * 5 + 5 ≤ k) → M k = N k
theorem off_tr {s : Nat} {N M L : Nat → Int32} (h1 : offR s N M) (h2 : offR s M L) : offR s N L := fun k hk => (h2 k hk).trans (h1 k hk)
theorem off_rf {s : Nat} {N : Nat → Int32} : offR s N N := fun _ _ => rfl
theorem off_p (N : Nat → Int32) (s w : Nat) (x : Int32) (hw : w < 5) : offR s N (pN N s w x) := fun k hk => if_neg (by omega)
theorem off_g (N : Nat → Int32) (s w : Nat) (x : Int32) (hw : w < 5) : offR s N (gN N s w x) := off_p N s w _ hw
theorem off_q (N : Nat → Int32) (s w : Nat) (x : Int32) (hw : w < 5) : offR s N (qN N s w x) := off_p N s w _ hw
theorem off_day (N : Nat → Int32) (s : Nat) (sn wi fr te : Int32) : offR s N (dayN N s sn wi fr te) := by
  unfold dayN
  refine off_tr (M := buryN (blowN (settleN N s (tS te s) (fallS sn (tS te s)) sn) s wi fr) s (tS te s) (fallS sn (tS te s)) wi) (off_tr (M := blowN (settleN N s (tS te s) (fallS sn (tS te s)) sn) s wi fr) (off_tr (M := settleN N s (tS te s) (fallS sn (tS te s)) sn) ?_ ?_) ?_) ?_
  · unfold settleN
    split
    · exact off_tr (off_p _ _ _ _ (by decide)) (off_g _ _ _ _ (by decide))
    · exact off_p _ _ _ _ (by decide)
  · generalize settleN N s (tS te s) (fallS sn (tS te s)) sn = M
    unfold blowN
    split
    · exact off_q _ _ _ _ (by decide)
    · split
      · exact off_g _ _ _ _ (by decide)
      · split
        · exact off_rf
        · exact off_g _ _ _ _ (by decide)
  · generalize blowN (settleN N s (tS te s) (fallS sn (tS te s)) sn) s wi fr = M
    unfold buryN
    repeat' split
    all_goals first
      | exact off_rf
      | exact off_p _ _ _ _ (by decide)
      | exact off_g _ _ _ _ (by decide)
      | exact off_tr (off_g _ _ _ _ (by decide)) (off_p _ _ _ _ (by decide))
  · generalize buryN (blowN (settleN N s (tS te s) (fallS sn (tS te s)) sn) s wi fr) s (tS te s) (fallS sn (tS te s)) wi = M
    unfold thawN
    split
    · split
      · exact off_tr (off_q _ _ _ _ (by decide)) (off_g _ _ _ _ (by decide))
      · exact off_tr (off_q _ _ _ _ (by decide)) (off_g _ _ _ _ (by decide))
    · exact off_tr (off_q _ _ _ _ (by decide)) (off_q _ _ _ _ (by decide))
theorem pd_hi (N : Nat → Int32) (sn wi fr te : Int32) : ∀ (n k : Nat), n * 5 ≤ k → pdN N sn wi fr te n k = N k
  | 0, _, _ => rfl
  | n + 1, k, hk => by
    show dayN (pdN N sn wi fr te n) n sn wi fr te k = N k
    rw [off_day (pdN N sn wi fr te n) n sn wi fr te k (Or.inr (by omega)), pd_hi N sn wi fr te n k (by omega)]
theorem pd_row {N : Nat → Int32} {sn wi fr te : Int32} (hR : ∀ s, s < 12 → Rg (rw5 N s)) (hw : wok sn wi fr te) : ∀ n : Nat, n ≤ 12 → ∀ s p, s < n → p < 5 → pdN N sn wi fr te n (s * 5 + p) = goF (rw5 N s) s sn wi fr te p
  | 0, _, s, _, h, _ => absurd h (by omega)
  | n + 1, hn, s, p, hs, hp => by
    show dayN (pdN N sn wi fr te n) n sn wi fr te (s * 5 + p) = _
    by_cases e : s = n
    · subst e
      have e1 : rw5 (pdN N sn wi fr te s) s = rw5 N s := by
        funext q
        exact pd_hi N sn wi fr te s (s * 5 + q) (by omega)
      have e2 := row_day (pdN N sn wi fr te s) s (by rw [e1]; exact hR s (by omega)) hw (by omega)
      rw [e1] at e2
      exact congrFun e2 p
    · rw [off_day (pdN N sn wi fr te n) n sn wi fr te (s * 5 + p) (Or.inl (by omega))]
      exact pd_row hR hw n (by omega) s p (by omega) hp
/-! the reference's five numbers: what lies behind them doesn't count -/
def agr (a b : Nat → Int32) : Prop := ∀ w, w < 5 → a w = b w
theorem agr_upd {a b : Nat → Int32} (h : agr a b) (w : Nat) (v : Int32) : agr (upd a w v) (upd b w v) := by
  intro q hq
  show (if q = w then v else a q) = (if q = w then v else b q)
  rw [h q hq]
theorem agr_mP {a b : Nat → Int32} (h : agr a b) (w : Nat) (v : Int32) : agr (mP a w v) (mP b w v) := agr_upd h w _
theorem agr1 {a b : Nat → Int32} (h : agr a b) (t fa sn : Int32) : agr (go1 a t fa sn) (go1 b t fa sn) := by
  unfold go1
  rw [h 0 (by decide)]
  have h1 := agr_mP h 0 (b 0 * 6 / 10 + fa)
  rw [h1 3 (by decide)]
  by_cases c : 1 < t
  · rw [if_pos c, if_pos c]; exact agr_mP h1 3 _
  · rw [if_neg c, if_neg c]; exact h1
theorem agr2 {a b : Nat → Int32} (h : agr a b) (s : Nat) (wi fr : Int32) : agr (go2 a s wi fr) (go2 b s wi fr) := by
  have hm : moM a wi = moM b wi := by unfold moM; rw [h 0 (by decide)]
  unfold go2 drM
  rw [hm, h 1 (by decide)]
  by_cases c : wi < 25
  · rw [if_pos c, if_pos c]; exact agr_upd h 1 _
  · rw [if_neg c, if_neg c]; exact agr_mP h 1 _
theorem agr3 {a b : Nat → Int32} (h : agr a b) (t fa wi : Int32) : agr (go3 a t fa wi) (go3 b t fa wi) := by
  unfold go3
  rw [h 4 (by decide), h 2 (by decide)]
  by_cases h1 : fa < 10
  · rw [if_pos h1, if_pos h1]
    by_cases h2 : wi < 40
    · rw [if_pos h2, if_pos h2]
      by_cases h3 : 0 < t
      · rw [if_pos h3, if_pos h3]; exact agr_upd h 4 _
      · rw [if_neg h3, if_neg h3]
        by_cases h4 : fa = 0
        · rw [if_pos h4, if_pos h4]
          by_cases h5 : wi < 15
          · rw [if_pos h5, if_pos h5]
            by_cases h6 : t < -8
            · rw [if_pos h6, if_pos h6]; exact agr_mP h 4 _
            · rw [if_neg h6, if_neg h6]; exact h
          · rw [if_neg h5, if_neg h5]; exact h
        · rw [if_neg h4, if_neg h4]; exact h
    · rw [if_neg h2, if_neg h2]; exact agr_upd h 4 _
  · rw [if_neg h1, if_neg h1]; exact agr_upd (agr_mP h 2 _) 4 _
theorem agr4 {a b : Nat → Int32} (h : agr a b) (s : Nat) (t : Int32) : agr (go4 a s t) (go4 b s t) := by
  unfold go4
  rw [h 2 (by decide)]
  have h1 := agr_upd h 2 (b 2 * 7 / 10)
  have h2 := agr_upd h 2 (b 2 * 95 / 100)
  rw [h1 3 (by decide), h2 3 (by decide)]
  by_cases c : 0 < t
  · rw [if_pos c, if_pos c]
    by_cases c2 : s % 4 = 2
    · rw [if_pos c2, if_pos c2]; exact agr_mP h1 3 _
    · rw [if_neg c2, if_neg c2]; exact agr_mP h1 3 _
  · rw [if_neg c, if_neg c]; exact agr_upd h2 3 _
theorem agrF {a b : Nat → Int32} (h : agr a b) (s : Nat) (sn wi fr te : Int32) : agr (goF a s sn wi fr te) (goF b s sn wi fr te) := agr4 (agr3 (agr2 (agr1 h _ _ _) _ _ _) _ _ _) _ _
theorem th_row (f : Nat → Int32) (r : Nat) (sn wi fr te : Int32) : ∀ (n s w : Nat), s < n → w < 5 → (thM f r sn wi fr te n).1 (5 * s + w) = goF (va_cpy f (thM f r sn wi fr te s).2 ((12 * r + s) * 5) 0 5) s sn wi fr te w
  | 0, _, _, h, _ => absurd h (by omega)
  | n + 1, s, w, hs, hw => by
    show (if 5 * n ≤ 5 * s + w ∧ 5 * s + w < 5 * n + 5 then goF (va_cpy f (thM f r sn wi fr te n).2 ((12 * r + n) * 5) 0 5) n sn wi fr te (0 + (5 * s + w - 5 * n)) else (thM f r sn wi fr te n).1 (5 * s + w)) = _
    by_cases e : s = n
    · subst e
      rw [if_pos (by omega), show 0 + (5 * s + w - 5 * s) = w by omega]
    · rw [if_neg (by omega)]
      exact th_row f r sn wi fr te n s w (by omega) hw
def relR (N f : Nat → Int32) (r : Nat) : Prop := rel N f r ∧ ∀ k, k < 60 → okv (N k) (gB (k % 5))
theorem relR.Rg {N f : Nat → Int32} {r : Nat} (h : relR N f r) {s : Nat} (hs : s < 12) : Rg (rw5 N s) := by
  intro w hw
  have := h.2 (s * 5 + w) (by omega)
  rw [show (s * 5 + w) % 5 = w by omega] at this
  exact this
theorem day_rel {N f : Nat → Int32} {r : Nat} {sn wi fr te : Int32} (h : relR N f r) (hw : wok sn wi fr te) : ∀ k, k < 60 → pdN N sn wi fr te 12 k = tnM f r sn wi fr te k ∧ okv (pdN N sn wi fr te 12 k) (gB (k % 5)) := by
  intro k hk
  have e0 : k / 5 * 5 + k % 5 = k := by omega
  have e1 := pd_row (fun s hs => h.Rg hs) hw 12 (Nat.le_refl _) (k / 5) (k % 5) (by omega) (by omega)
  rw [e0] at e1
  have e2 := th_row f r sn wi fr te 12 (k / 5) (k % 5) (by omega) (by omega)
  rw [show 5 * (k / 5) + k % 5 = k by omega] at e2
  have ha : agr (rw5 N (k / 5)) (va_cpy f (thM f r sn wi fr te (k / 5)).2 ((12 * r + k / 5) * 5) 0 5) := by
    intro w hw
    rw [h.1.row (show k / 5 < 12 by omega) hw]
    show f ((12 * r + k / 5) * 5 + w) = (if 0 ≤ w ∧ w < 0 + 5 then f ((12 * r + k / 5) * 5 + (w - 0)) else _)
    rw [if_pos (by omega), Nat.sub_zero]
  refine ⟨?_, ?_⟩
  · rw [e1]
    show _ = (thM f r sn wi fr te 12).1 k
    rw [e2]
    exact agrF ha _ _ _ _ _ _ (by omega)
  · rw [e1]
    exact RgF (h.Rg (by omega)) hw (by omega) _ (by omega)
/-! the end of a day, bulletins, sums -/
theorem en_eq {S : Nat → Nat → Int32} {NU WE : Nat → Int32} (h : ∀ r, r < 6 → relR (S (3 + 2 * r)) NU r) {m : Nat} (hm : m ≤ 6) (hw : ∀ r, r < m → S (2 + 2 * r) 2 = WE (4 * r) ∧ S (2 + 2 * r) 3 = WE (4 * r + 1) ∧ S (2 + 2 * r) 4 = WE (4 * r + 2) ∧ S (2 + 2 * r) 5 = WE (4 * r + 3) ∧ wok (WE (4 * r)) (WE (4 * r + 1)) (WE (4 * r + 2)) (WE (4 * r + 3))) : ∀ n : Nat, n ≤ m → (∀ r, r < 6 → relR (dES S n (3 + 2 * r)) (enM NU WE n) r) ∧ (∀ r, r < 6 → dES S n (2 + 2 * r) = if r < n then fF 0 0 0 0 (-5) else S (2 + 2 * r)) ∧ (∀ k, 14 ≤ k → dES S n k = S k)
  | 0, _ => ⟨h, fun r _ => (if_neg (by omega)).symm, fun _ _ => rfl⟩
  | n + 1, hn => by
    obtain ⟨i1, i2, i3⟩ := en_eq h hm hw n (by omega)
    obtain ⟨w2, w3, w4, w5, wk⟩ := hw n (by omega)
    have eF : dES S n (2 + 2 * n) = S (2 + 2 * n) := by rw [i2 n (by omega), if_neg (by omega)]
    have d := day_rel (i1 n (by omega)) wk
    have eD : dES S (n + 1) = va_up (va_up (dES S n) (3 + 2 * n) (pdN (dES S n (3 + 2 * n)) (WE (4 * n)) (WE (4 * n + 1)) (WE (4 * n + 2)) (WE (4 * n + 3)) 12)) (2 + 2 * n) (fF 0 0 0 0 (-5)) := by
      show va_up (va_up (dES S n) (3 + 2 * n) (pdN (dES S n (3 + 2 * n)) ((dES S n (2 + 2 * n)) 2) ((dES S n (2 + 2 * n)) 3) ((dES S n (2 + 2 * n)) 4) ((dES S n (2 + 2 * n)) 5) 12)) (2 + 2 * n) (fF 0 0 0 0 (-5)) = _
      rw [eF, w2, w3, w4, w5]
    have eE : enM NU WE (n + 1) = va_cpy (tnM (enM NU WE n) n (WE (4 * n)) (WE (4 * n + 1)) (WE (4 * n + 2)) (WE (4 * n + 3))) (enM NU WE n) 0 ((12 * n + 0) * 5) 60 := rfl
    rw [eD, eE]
    generalize pdN (dES S n (3 + 2 * n)) (WE (4 * n)) (WE (4 * n + 1)) (WE (4 * n + 2)) (WE (4 * n + 3)) 12 = P at d ⊢
    generalize tnM (enM NU WE n) n (WE (4 * n)) (WE (4 * n + 1)) (WE (4 * n + 2)) (WE (4 * n + 3)) = T at d ⊢
    refine ⟨fun r hr => ?_, fun r hr => ?_, fun k hk => ?_⟩
    · by_cases e : r = n
      · subst e
        have e9 : va_up (va_up (dES S r) (3 + 2 * r) P) (2 + 2 * r) (fF 0 0 0 0 (-5)) (3 + 2 * r) = P := by rw [va_up_ne _ _ (by omega), va_up_self]
        rw [e9]
        refine ⟨fun k hk => ?_, fun k hk => (d k hk).2⟩
        rw [(d k hk).1]
        show _ = (if (12 * r + 0) * 5 ≤ 60 * r + k ∧ 60 * r + k < (12 * r + 0) * 5 + 60 then T (0 + (60 * r + k - (12 * r + 0) * 5)) else _)
        rw [if_pos (by omega), show 0 + (60 * r + k - (12 * r + 0) * 5) = k by omega]
      · have e9 : va_up (va_up (dES S n) (3 + 2 * n) P) (2 + 2 * n) (fF 0 0 0 0 (-5)) (3 + 2 * r) = dES S n (3 + 2 * r) := by rw [va_up_ne _ _ (by omega), va_up_ne _ _ (by omega)]
        rw [e9]
        refine ⟨fun k hk => ?_, (i1 r hr).2⟩
        rw [(i1 r hr).1 k hk]
        show _ = (if (12 * n + 0) * 5 ≤ 60 * r + k ∧ 60 * r + k < (12 * n + 0) * 5 + 60 then _ else enM NU WE n (60 * r + k))
        rw [if_neg (by omega)]
    · by_cases e : r = n
      · subst e
        rw [va_up_self, if_pos (by omega)]
      · rw [va_up_ne _ _ (by omega), va_up_ne _ _ (by omega), i2 r hr]
        by_cases c : r < n
        · rw [if_pos c, if_pos (by omega)]
        · rw [if_neg c, if_neg (by omega)]
    · rw [va_up_ne _ _ (by omega), va_up_ne _ _ (by omega), i3 k hk]
theorem ca_at (f g : Nat → Int32) {r : Nat} (hr : r < 6) : caR f 6 (4 * r) = 0 ∧ caR f 6 (4 * r + 1) = 0 ∧ caR f 6 (4 * r + 2) = 0 ∧ caR f 6 (4 * r + 3) = -5 ∧ caT g 6 r = 0 := by
  rcases (show r = 0 ∨ r = 1 ∨ r = 2 ∨ r = 3 ∨ r = 4 ∨ r = 5 by omega) with rfl | rfl | rfl | rfl | rfl | rfl <;> exact ⟨rfl, rfl, rfl, rfl, rfl⟩
theorem pb_eq {S : Nat → Nat → Int32} {NU : Nat → Int32} (h : ∀ r, r < 6 → rel (S (3 + 2 * r)) NU r) (dy : Nat) : ∀ n : Nat, n ≤ 6 → pbD S dy n = pbM NU dy (S 18) n
  | 0, _ => rfl
  | n + 1, hn => by
    have hr := h n (by omega)
    show upd (upd (upd (pbD S dy n) ((dy * 6 + n) * 3 + 0) (levA (S (3 + 2 * n)))) ((dy * 6 + n) * 3 + 1) (corD (S (3 + 2 * n)))) ((dy * 6 + n) * 3 + 2) (manD (S (3 + 2 * n))) = upd (upd (upd (pbM NU dy (S 18) n) ((6 * dy + n) * 3) (levM NU n)) ((6 * dy + n) * 3 + 1) (corM NU n)) ((6 * dy + n) * 3 + 2) (manM NU n)
    rw [pb_eq h dy n (by omega), hr.lev, hr.cor, hr.man, Nat.mul_comm dy 6, Nat.add_zero]
theorem pg_eq {S : Nat → Nat → Int32} {NU : Nat → Int32} (h : ∀ r, r < 6 → rel (S (3 + 2 * r)) NU r) : ∀ n : Nat, n ≤ 6 → pgD S n = pgM NU n
  | 0, _ => rfl
  | n + 1, hn => by
    show mx (pgD S n) (levA (S (3 + 2 * n))) = mx (pgM NU n) (levM NU n)
    rw [pg_eq h n (by omega), (h n (by omega)).lev]
theorem upd_ne {f : Nat → Int32} {k j : Nat} {v : Int32} (h : j ≠ k) : upd f k v j = f j := if_neg h
theorem upd_at {f : Nat → Int32} {k : Nat} {v : Int32} : upd f k v k = v := if_pos rfl
theorem pb_off (S : Nat → Nat → Int32) (dy k : Nat) : ∀ n : Nat, n ≤ 6 → (k < dy * 18 ∨ dy * 18 + 18 ≤ k) → pbD S dy n k = S 18 k
  | 0, _, _ => rfl
  | n + 1, hn, hk => by
    show upd (upd (upd (pbD S dy n) ((dy * 6 + n) * 3 + 0) _) ((dy * 6 + n) * 3 + 1) _) ((dy * 6 + n) * 3 + 2) _ k = _
    rw [upd_ne (by omega), upd_ne (by omega), upd_ne (by omega), pb_off S dy k n (by omega) hk]
theorem pb_at (S : Nat → Nat → Int32) (dy r : Nat) : ∀ n : Nat, n ≤ 6 → r < n → pbD S dy n ((dy * 6 + r) * 3 + 0) = levA (S (3 + 2 * r))
  | 0, _, h => absurd h (by omega)
  | n + 1, hn, hr => by
    show upd (upd (upd (pbD S dy n) ((dy * 6 + n) * 3 + 0) _) ((dy * 6 + n) * 3 + 1) _) ((dy * 6 + n) * 3 + 2) _ _ = _
    rw [upd_ne (by omega), upd_ne (by omega)]
    by_cases e : r = n
    · subst e; rw [upd_at]
    · rw [upd_ne (by omega), pb_at S dy r n (by omega) (by omega)]
theorem lev15 (N : Nat → Int32) : ∃ z, 1 ≤ z ∧ z ≤ 5 ∧ levA N = nI z := by
  unfold levA
  rcases lvD_c (flA N 12).2 with ⟨_, e⟩ | ⟨_, _, e⟩ | ⟨_, _, e⟩ | ⟨_, _, e⟩ | ⟨_, e⟩ <;> rw [e]
  · exact ⟨1, by omega, by omega, rfl⟩
  · exact ⟨2, by omega, by omega, rfl⟩
  · exact ⟨3, by omega, by omega, rfl⟩
  · exact ⟨4, by omega, by omega, rfl⟩
  · exact ⟨5, by omega, by omega, rfl⟩
theorem nb_lo (zs : Nat → Nat) (dy x : Nat) : ∀ n : Nat, n ≤ dy → nbM (va_up zs dy x) n = nbM zs n
  | 0, _ => rfl
  | n + 1, h => by
    show nbM (va_up zs dy x) n + (if 0 < va_up zs dy x n then 1 else 0) = nbM zs n + (if 0 < zs n then 1 else 0)
    rw [nb_lo zs dy x n (by omega), va_up_ne _ _ (by omega)]
theorem nb_hi (zs : Nat → Nat) (dy x : Nat) (hz : zs dy = 0) (hx : 0 < x) : ∀ n : Nat, dy < n → nbM (va_up zs dy x) n = nbM zs n + 1
  | 0, h => absurd h (by omega)
  | n + 1, h => by
    show nbM (va_up zs dy x) n + (if 0 < va_up zs dy x n then 1 else 0) = nbM zs n + (if 0 < zs n then 1 else 0) + 1
    by_cases e : n = dy
    · subst e
      rw [nb_lo zs n x n (Nat.le_refl _), va_up_self, if_pos hx, if_neg (by omega), Int32.add_zero]
    · rw [nb_hi zs dy x hz hx n (by omega), va_up_ne _ _ e, Int32.add_assoc, Int32.add_assoc, Int32.add_comm 1]
theorem ac_congr {f g : Nat → Int32} (d r : Nat) : ∀ n : Nat, (∀ k, k < 4 * n → f k = g k) → acM f d r n = acM g d r n
  | 0, _ => rfl
  | n + 1, h => by
    show (if f (4 * n) = nI d then (if f (4 * n + 1) = nI r then acM f d r n + f (4 * n + 3) * f (4 * n + 3) else acM f d r n) else acM f d r n) = (if g (4 * n) = nI d then (if g (4 * n + 1) = nI r then acM g d r n + g (4 * n + 3) * g (4 * n + 3) else acM g d r n) else acM g d r n)
    rw [ac_congr d r n (fun k hk => h k (by omega)), h (4 * n) (by omega), h (4 * n + 1) (by omega), h (4 * n + 3) (by omega)]
/-- one avalanche more -/
def seM (dy jr js : Nat) (z : Int32) (AV : Nat → Int32) (cn : Nat) : Nat → Int32 := va_cpy (mdF dy jr js z) AV 0 (4 * cn) 4
theorem se_lo (dy jr js : Nat) (z : Int32) (AV : Nat → Int32) (cn k : Nat) (h : k < 4 * cn) : seM dy jr js z AV cn k = AV k := if_neg (by omega)
theorem se_at (dy jr js : Nat) (z : Int32) (AV : Nat → Int32) (cn : Nat) : seM dy jr js z AV cn (4 * cn) = nI dy ∧ seM dy jr js z AV cn (4 * cn + 1) = nI jr ∧ seM dy jr js z AV cn (4 * cn + 2) = nI js ∧ seM dy jr js z AV cn (4 * cn + 3) = z := by
  have h : ∀ j, j < 4 → seM dy jr js z AV cn (4 * cn + j) = mdF dy jr js z j := by
    intro j hj
    show (if 4 * cn ≤ 4 * cn + j ∧ 4 * cn + j < 4 * cn + 4 then mdF dy jr js z (0 + (4 * cn + j - 4 * cn)) else _) = _
    rw [if_pos (by omega), show 0 + (4 * cn + j - 4 * cn) = j by omega]
  exact ⟨h 0 (by omega), h 1 (by omega), h 2 (by omega), h 3 (by omega)⟩
theorem ac_see (dy jr js : Nat) (z : Int32) (AV : Nat → Int32) (cn d r : Nat) : acM (seM dy jr js z AV cn) d r (cn + 1) = if nI dy = nI d then (if nI jr = nI r then acM AV d r cn + z * z else acM AV d r cn) else acM AV d r cn := by
  obtain ⟨e0, e1, _, e3⟩ := se_at dy jr js z AV cn
  show (if seM dy jr js z AV cn (4 * cn) = nI d then (if seM dy jr js z AV cn (4 * cn + 1) = nI r then acM (seM dy jr js z AV cn) d r cn + seM dy jr js z AV cn (4 * cn + 3) * seM dy jr js z AV cn (4 * cn + 3) else acM (seM dy jr js z AV cn) d r cn) else acM (seM dy jr js z AV cn) d r cn) = _
  rw [e0, e1, e3, ac_congr d r cn (fun k hk => se_lo dy jr js z AV cn k hk)]
theorem bo_r {S : Nat → Nat → Int32} {AV : Nat → Int32} {cn : Nat} {zs : Nat → Nat} (hw : Int32) {d : Nat} (hV : ∀ r, r < 6 → S 23 (d * 6 + r) = acM AV d r cn) (a : Int32) : ∀ n : Nat, n ≤ 6 → bcR S zs hw d a n = boR (S 18) AV cn hw d a (min n (zs d))
  | 0, _ => by rw [Nat.zero_min]; rfl
  | n + 1, hn => by
    have ih := bo_r hw hV a n (by omega) (zs := zs)
    have e : bcR S zs hw d a (n + 1) = if tellsN zs d n = 0 then bcR S zs hw d a n else if howF (lvS S d n) (S 23 (d * 6 + n)) = hw then bcR S zs hw d a n + 1 else bcR S zs hw d a n := rfl
    rw [e]
    by_cases c : n < zs d
    · rw [if_neg (show ¬ tellsN zs d n = 0 by unfold tellsN; rw [if_pos c]; decide), ih, show min n (zs d) = n by omega, show min (n + 1) (zs d) = n + 1 by omega, hV n (by omega)]
      show _ = boR (S 18) AV cn hw d a n + (if howF (lvB (S 18) d n) (acM AV d n cn) = hw then 1 else 0)
      have el : lvS S d n = lvB (S 18) d n := by unfold lvS lvB; rw [Nat.mul_comm d 6, Nat.add_zero]
      rw [el]
      by_cases c2 : howF (lvB (S 18) d n) (acM AV d n cn) = hw
      · rw [if_pos c2, if_pos c2]
      · rw [if_neg c2, if_neg c2, Int32.add_zero]
    · rw [if_pos (show tellsN zs d n = 0 by unfold tellsN; rw [if_neg c]), ih, show min n (zs d) = zs d by omega, show min (n + 1) (zs d) = zs d by omega]
theorem bo_d {S : Nat → Nat → Int32} {AV : Nat → Int32} {cn rn : Nat} {zs : Nat → Nat} (hw : Int32) (hr : rn ≤ 6) (hz : ∀ k, zs k ≤ rn) (hV : ∀ d r, d ≤ 60 → r < 6 → S 23 (d * 6 + r) = acM AV d r cn) : ∀ n : Nat, n ≤ 61 → bcD S zs rn hw n = boD (S 18) AV cn zs hw n
  | 0, _ => rfl
  | n + 1, hn => by
    show bcR S zs hw n (bcD S zs rn hw n) rn = boR (S 18) AV cn hw n (boD (S 18) AV cn zs hw n) (zs n)
    rw [bo_d hw hr hz hV n (by omega), bo_r hw (fun r h6 => hV n r (by omega) h6) _ rn hr, show min rn (zs n) = zs n from Nat.min_eq_right (hz n)]
theorem bo_up {BU AV : Nat → Int32} {cn : Nat} {zs : Nat → Nat} (hw : Int32) {n : Nat} (hz : ∀ k, n ≤ k → zs k = 0) : ∀ j : Nat, boD BU AV cn zs hw (n + j) = boD BU AV cn zs hw n
  | 0 => rfl
  | j + 1 => by
    show boR BU AV cn hw (n + j) (boD BU AV cn zs hw (n + j)) (zs (n + j)) = _
    rw [hz (n + j) (by omega)]
    exact bo_up hw hz j
/-! the digest -/
theorem dm_k {N f : Nat → Int32} {r : Nat} (h : rel N f r) (s : Nat) (hs : s < 12) (d : Int64) : ∀ w : Nat, w ≤ 5 → dmK N s (dkM f r d (5 * s)) w = dkM f r d (5 * s + w)
  | 0, _ => rfl
  | w + 1, hw => by
    show dmK N s (dkM f r d (5 * s)) w * 31 + Int32.toInt64 (N (s * 5 + w)) = dkM f r d (5 * s + w) * 31 + Int32.toInt64 (f ((12 * r + 0) * 5 + (5 * s + w)))
    rw [dm_k h s hs d w (by omega), h.fr (s * 5 + w) (by omega), Nat.mul_comm s 5]
theorem dm_s {N f : Nat → Int32} {r : Nat} (h : rel N f r) (d : Int64) : ∀ s : Nat, s ≤ 12 → dmS N d s = dkM f r d (5 * s)
  | 0, _ => rfl
  | s + 1, hs => by
    show dmK N s (dmS N d s) 5 = _
    rw [dm_s h d s (by omega), dm_k h s (by omega) d 5 (by omega)]; rfl
theorem dd_r {S : Nat → Nat → Int32} {f AV : Nat → Int32} {cn dy : Nat} (h : ∀ r, r < 6 → rel (S (3 + 2 * r)) f r) (hV : ∀ r, r < 6 → S 23 (dy * 6 + r) = acM AV dy r cn) (a : Int64) : ∀ n : Nat, n ≤ 6 → ddR S dy a n = dqM f AV dy cn a n
  | 0, _ => rfl
  | n + 1, hn => by
    have hr := h n (by omega)
    show (((dmS (S (3 + 2 * n)) (ddR S dy a n) 12 * 31 + Int32.toInt64 (levA (S (3 + 2 * n)))) * 31 + Int32.toInt64 (corD (S (3 + 2 * n)))) * 31 + Int32.toInt64 (manD (S (3 + 2 * n)))) * 31 + Int32.toInt64 (S 23 (dy * 6 + n)) = _
    rw [dd_r h hV a n (by omega), dm_s hr _ 12 (Nat.le_refl _), hr.lev, hr.cor, hr.man, hV n (by omega)]; rfl
theorem dx_k (L : Nat → Int32) (d r : Nat) (a : Int64) : ∀ w : Nat, w ≤ 3 → dxK L d r (dbK L d a (3 * r)) w = dbK L d a (3 * r + w)
  | 0, _ => rfl
  | w + 1, hw => by
    show dxK L d r (dbK L d a (3 * r)) w * 31 + Int32.toInt64 (L ((d * 6 + r) * 3 + w)) = dbK L d a (3 * r + w) * 31 + Int32.toInt64 (L ((6 * d + 0) * 3 + (3 * r + w)))
    rw [dx_k L d r a w (by omega), show (d * 6 + r) * 3 + w = (6 * d + 0) * 3 + (3 * r + w) by omega]
theorem dx_r (L : Nat → Int32) (d : Nat) (a : Int64) : ∀ r : Nat, dxR L d a r = dbK L d a (3 * r)
  | 0 => rfl
  | r + 1 => by
    show dxK L d r (dxR L d a r) 3 = _
    rw [dx_r L d a r, dx_k L d r a 3 (by omega)]; rfl
theorem dd_d (L : Nat → Int32) (zs : Nat → Nat) (a : Int64) : ∀ n : Nat, ddD L zs a n = dbM L zs a n
  | 0 => rfl
  | n + 1 => by
    show (if tellsN zs n 0 = 0 then ddD L zs a n else dxR L n (ddD L zs a n * 31 + Int32.toInt64 (nI n)) (zs n)) = (if zs n = 0 then dbM L zs a n else dbK L n (dbM L zs a n * 31 + Int32.toInt64 (nI n)) (3 * zs n))
    rw [dd_d L zs a n, dx_r]
    by_cases c : zs n = 0
    · rw [if_pos c, if_pos (show tellsN zs n 0 = 0 by unfold tellsN; rw [if_neg (by omega)])]
    · rw [if_neg c, if_neg (show ¬ tellsN zs n 0 = 0 by unfold tellsN; rw [if_pos (by omega)]; decide)]
theorem db_up (L : Nat → Int32) (zs : Nat → Nat) (a : Int64) {n : Nat} (hz : ∀ k, n ≤ k → zs k = 0) : ∀ j : Nat, dbM L zs a (n + j) = dbM L zs a n
  | 0 => rfl
  | j + 1 => by
    show (if zs (n + j) = 0 then dbM L zs a (n + j) else _) = _
    rw [if_pos (hz (n + j) (by omega))]
    exact db_up L zs a hz j
theorem dx_t (A B : Nat → Int32) (a : Int64) : ∀ k : Nat, dxT A B a k = dlM A B a k
  | 0 => rfl
  | k + 1 => by
    show (dxT A B a k * 31 + Int32.toInt64 (A k)) * 31 + Int32.toInt64 (B k) = _
    rw [dx_t A B a k]; rfl
