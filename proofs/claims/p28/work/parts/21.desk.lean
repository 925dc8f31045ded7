/-! what the desk's other methods compute -/
theorem up_own {α : Type} (f : Nat → α) (k : Nat) : va_up f k (f k) = f := by
  funext j; unfold va_up; by_cases h : j = k
  · subst h; simp
  · simp [h]
theorem tellsN_yes {zs : Nat → Nat} {d r : Nat} (h : ¬ tellsN zs d r = 0) : r < zs d := by
  unfold tellsN at h
  by_cases q : r < zs d
  · exact q
  · rw [if_neg q] at h; exact absurd rfl h
theorem tellsN_no {zs : Nat → Nat} {d r : Nat} (h : tellsN zs d r = 0) : ¬ r < zs d := by
  unfold tellsN at h
  intro q; rw [if_pos q] at h; exact absurd h (by decide)
theorem tells_ok {zs : Nat → Nat} {d r : Int32} (hz : ∀ k, k ≤ 60 → zs k ≤ 6) (h : ¬ tellsF zs d r = 0) : ∃ jd jr, jd < 61 ∧ jr < zs jd ∧ d = nI jd ∧ r = nI jr ∧ ¬ isInF d 0 60 = 0 ∧ ¬ isInF r 0 (nI (zs (Int32.toNatClampNeg d)) - 1) = 0 := by
  unfold tellsF at h
  by_cases h0 : d < 0
  · rw [if_pos h0] at h; exact absurd rfl h
  · rw [if_neg h0] at h
    by_cases h1 : 60 < d
    · rw [if_pos h1] at h; exact absurd rfl h
    · rw [if_neg h1] at h
      by_cases h2 : r < 0
      · rw [if_pos h2] at h; exact absurd rfl h
      · rw [if_neg h2] at h
        by_cases h3 : r < nI (zs (Int32.toNatClampNeg d))
        · obtain ⟨jd, hjd, rfl⟩ := nI_of2 (M := 60) (n := 60) rfl h0 (mz_nlt.mpr h1)
          have e1 : (nI jd).toNatClampNeg = jd := nI_clamp (by omega)
          rw [e1] at h3 ⊢
          have hb := hz jd hjd
          obtain ⟨jr, hjr, rfl⟩ := nI_of h2
          exact ⟨jd, jr, by omega, (nI_ltI hjr (by omega)).mp h3, rfl, rfl, by unfold isInF; rw [if_neg h0, if_neg h1]; decide, isIn_ok _ rfl (by omega) h2 h3⟩
        · rw [if_neg h3] at h; exact absurd rfl h
theorem tells_bad {zs : Nat → Nat} {d r w : Int32} (hz : ∀ k, k ≤ 60 → zs k ≤ 6) (h : tellsF zs d r = 0) : 1 = tBul zs d r w := by
  unfold tellsF at h
  unfold tBul
  by_cases h0 : d < 0
  · rw [if_pos (show isInF d 0 60 = 0 from if_pos h0)]
  · rw [if_neg h0] at h
    by_cases h1 : 60 < d
    · rw [if_pos (show isInF d 0 60 = 0 from by unfold isInF; rw [if_neg h0, if_pos h1])]
    · rw [if_neg h1] at h
      rw [if_neg (show ¬ isInF d 0 60 = 0 from by unfold isInF; rw [if_neg h0, if_neg h1]; decide)]
      obtain ⟨jd, hjd, rfl⟩ := nI_of2 (M := 60) (n := 60) rfl h0 (mz_nlt.mpr h1)
      have e1 : (nI jd).toNatClampNeg = jd := nI_clamp (by omega)
      rw [e1] at h ⊢
      have hb := hz jd hjd
      by_cases h2 : r < 0
      · rw [if_pos (isIn_lo (zs jd) h2)]
      · rw [if_neg h2] at h
        by_cases h3 : r < nI (zs jd)
        · rw [if_pos h3] at h; exact absurd h (by decide)
        · rw [if_pos (isIn_hi (zs jd) rfl (by omega) h3)]
theorem isIn_15 {v : Int32} (h : ¬ isInF v 1 5 = 0) : ∃ z, 1 ≤ z ∧ z ≤ 5 ∧ v = nI z := by
  unfold isInF at h
  by_cases h0 : v < 1
  · rw [if_pos h0] at h; exact absurd rfl h
  · rw [if_neg h0] at h
    by_cases h1 : 5 < v
    · rw [if_pos h1] at h; exact absurd rfl h
    · have h2 : ¬ v < 0 := fun q => h0 (by rw [Int32.lt_iff_toInt_lt] at q ⊢; rw [show (1 : Int32).toInt = 1 from by decide]; rw [show (0 : Int32).toInt = 0 from by decide] at q; omega)
      obtain ⟨z, hz, rfl⟩ := nI_of2 (M := 5) (n := 5) rfl h2 (mz_nlt.mpr h1)
      refine ⟨z, ?_, hz, rfl⟩
      rcases Nat.eq_zero_or_pos z with rfl | q
      · exact absurd (by decide) h0
      · exact q
theorem isIn_day {v : Int32} {n : Nat} (h : ¬ isInF v 0 (nI n) = 0) (hn : n < 2147483647) : ∃ j, j ≤ n ∧ v = nI j := by
  rw [isIn_n (n + 1) (nI_pred n).symm (by omega)] at h
  obtain ⟨j, hj, e⟩ := inF_some h (by omega)
  exact ⟨j, by omega, e⟩
theorem wsF_nat (lv co : Int32) (A B : Nat → Int32) : ∀ k : Nat, k < 2147483648 → ¬ (wsF lv co A B k).1 < 0 → ∃ w, w < k ∧ (wsF lv co A B k).1 = nI w
  | 0, _, h => absurd (show (-1 : Int32) < 0 by decide) h
  | k + 1, hk, h => by
    by_cases h1 : (wsF lv co A B k).1 < 0
    · exact ⟨k, by omega, by simp only [wsF, if_pos h1]⟩
    · by_cases h2 : (wsF lv co A B k).2 < rkF lv co (A k) (B k)
      · exact ⟨k, by omega, by simp only [wsF, if_neg h1, if_pos h2]⟩
      · obtain ⟨w, hw, e⟩ := wsF_nat lv co A B k (by omega) h1
        exact ⟨w, by omega, by simp only [wsF, if_neg h1, if_neg h2]; exact e⟩
def dES (S : Nat → Nat → Int32) : Nat → Nat → Nat → Int32
  | 0 => S
  | r + 1 => va_up (va_up (dES S r) (3 + 2 * r) (pdN (dES S r (3 + 2 * r)) ((dES S r (2 + 2 * r)) 2) ((dES S r (2 + 2 * r)) 3) ((dES S r (2 + 2 * r)) 4) ((dES S r (2 + 2 * r)) 5) 12)) (2 + 2 * r) (fF 0 0 0 0 (-5))
def corD (N : Nat → Int32) : Int32 := crA N (levA N) 12
def manD (N : Nat → Int32) : Int32 := (fpA N (corD N) 4).1
def pbD (S : Nat → Nat → Int32) (dy : Nat) : Nat → Nat → Int32
  | 0 => S 18
  | r + 1 => upd (upd (upd (pbD S dy r) ((dy * 6 + r) * 3 + 0) (levA (S (3 + 2 * r)))) ((dy * 6 + r) * 3 + 1) (corD (S (3 + 2 * r)))) ((dy * 6 + r) * 3 + 2) (manD (S (3 + 2 * r)))
def pgD (S : Nat → Nat → Int32) : Nat → Int32
  | 0 => 0
  | r + 1 => mx (pgD S r) (levA (S (3 + 2 * r)))
def lvS (S : Nat → Nat → Int32) (d r : Nat) : Nat := (S 18 ((d * 6 + r) * 3 + 0)).toNatClampNeg
def bcR (S : Nat → Nat → Int32) (zs : Nat → Nat) (hw : Int32) (d : Nat) (a : Int32) : Nat → Int32
  | 0 => a
  | r + 1 => if tellsN zs d r = 0 then bcR S zs hw d a r else if howF (lvS S d r) (S 23 (d * 6 + r)) = hw then bcR S zs hw d a r + 1 else bcR S zs hw d a r
def bcD (S : Nat → Nat → Int32) (zs : Nat → Nat) (rn : Nat) (hw : Int32) : Nat → Int32
  | 0 => 0
  | d + 1 => bcR S zs hw d (bcD S zs rn hw d) rn
def rkD (N A B : Nat → Int32) (lg : Nat) : Int32 := rkF (levA N) (corD N) (A lg) (B lg)
def gRk (N A B : Nat → Int32) (tn : Nat) : Int32 := if (wsF (levA N) (corD N) A B tn).1 < 0 then 0 else rkD N A B (Int32.toNatClampNeg (wsF (levA N) (corD N) A B tn).1)
def brF (S : Nat → Nat → Int32) (tn : Nat) : Nat → Int32 × Int32
  | 0 => (-1, 0)
  | r + 1 => if (brF S tn r).1 < 0 then (nI r, gRk (S (3 + 2 * r)) (S 25) (S 26) tn) else if gRk (S (3 + 2 * r)) (S 25) (S 26) tn < (brF S tn r).2 then (nI r, gRk (S (3 + 2 * r)) (S 25) (S 26) tn) else brF S tn r
def dmK (N : Nat → Int32) (s : Nat) (d : Int64) : Nat → Int64
  | 0 => d
  | w + 1 => dmK N s d w * 31 + Int32.toInt64 (N (s * 5 + w))
def dmS (N : Nat → Int32) (d : Int64) : Nat → Int64
  | 0 => d
  | s + 1 => dmK N s (dmS N d s) 5
def dmR (N : Nat → Int32) (d : Int64) : Int64 := ((dmS N d 12 * 31 + Int32.toInt64 (levA N)) * 31 + Int32.toInt64 (corD N)) * 31 + Int32.toInt64 (manD N)
def dxK (L : Nat → Int32) (d r : Nat) (a : Int64) : Nat → Int64
  | 0 => a
  | w + 1 => dxK L d r a w * 31 + Int32.toInt64 (L ((d * 6 + r) * 3 + w))
def dxR (L : Nat → Int32) (d : Nat) (a : Int64) : Nat → Int64
  | 0 => a
  | r + 1 => dxK L d r (dxR L d a r) 3
def dxB (L : Nat → Int32) (zs : Nat → Nat) (d : Nat) (a : Int64) : Int64 := if tellsN zs d 0 = 0 then a else dxR L d (a * 31 + Int32.toInt64 (nI d)) (zs d)
def dxT (A B : Nat → Int32) (a : Int64) : Nat → Int64
  | 0 => a
  | k + 1 => (dxT A B a k * 31 + Int32.toInt64 (A k)) * 31 + Int32.toInt64 (B k)
def ddR (S : Nat → Nat → Int32) (dy : Nat) (a : Int64) : Nat → Int64
  | 0 => a
  | r + 1 => dmR (S (3 + 2 * r)) (ddR S dy a r) * 31 + Int32.toInt64 (S 23 (dy * 6 + r))
def ddD (L : Nat → Int32) (zs : Nat → Nat) (a : Int64) : Nat → Int64
  | 0 => a
  | d + 1 => dxB L zs d (ddD L zs a d)
def dgD (S : Nat → Nat → Int32) (zs : Nat → Nat) (rn dy cn tn : Nat) : Int64 := dxT (S 25) (S 26) ((ddD (S 18) zs (ddR S dy ((331 * 31 + Int32.toInt64 (nI dy)) * 31 + Int32.toInt64 (nI rn)) rn) (dy + 1) * 31 + Int32.toInt64 (nI cn)) * 31 + Int32.toInt64 (nI tn)) tn
set_option maxHeartbeats 4000000 in
set_option maxRecDepth 100000 in
theorem kX4_publish (l : Launch) (hlt : l.stackTraces = false) (E : ev_T) (ad : Nat → Nat) (S : Nat → Nat → Int32) (zs : Nat → Nat) (rn : Nat) (dy : Nat) (bn : Nat) (cn : Nat) (tn : Nat) (sz : Nat) (hrn : rn ≤ 6) (hdy : dy ≤ 60) (hz : ∀ k, k ≤ 60 → zs k ≤ 6) : vx_Met l yX4_publish wsX4_publish ({ frames := 6, cells := 1, slots := 6, locals := 95 } : Room) (va_Pc [.ref (ad 0)] (pr_Y E (dC E ad S zs rn dy bn cn tn) sz)) (va_Qi (fun (r : Int32) (_ : Unit) => 0 = tPub zs dy rn ∧ r = pgD S rn) (fun _ t => va_P E.1 vwCl (dC E ad (va_up S 18 (pbD S dy rn)) (va_up zs dy rn) rn dy (bn + 1) cn tn) t.heap) (va_A (dC E ad S zs rn dy bn cn tn) sz)) (vx_X (fun (k : Nat) => k = tPub zs dy rn ∧ ¬ k = 0) (fun Ex k t => Ex = exn ((exm 1 0 0) k) ∧ va_P E.1 vwCl (dC E ad S zs rn dy bn cn tn) t.heap) (va_A (dC E ad S zs rn dy bn cn tn) sz)) 1 6 (va_A (dC E ad S zs rn dy bn cn tn) sz) := by
  refine vx_ofW (cc := cX4_publish) (maxL := 5) (ret := (some .int)) (by decide) rfl ?_
  intro p e s m args below meth c s₁ B hml htb hv
  obtain ⟨rfl, hsz, hP, hD0, hE, hU9⟩ := hv
  have hx := B.exec
  have hb := B.bytes
  have hr := B.returns
  have hts := atoms_spec (ws := wsX4_publish) B.pre
  have hown : s.vm.findClass RX4 = some m.cls := findClass_of_methodNamed B.named
  have hlocks := B.notSynchronized
  subst hsz
  have hD : va_D (va_A (dC E ad S zs rn dy bn cn tn) s.heap.size) (dC E ad S zs rn dy bn cn tn) := hD0.self
  have hA : ∀ q : Nat, s.heap.size ≤ q → (va_A (dC E ad S zs rn dy bn cn tn) s.heap.size) q := fun q h => Or.inr h
  refine mz_start (fun H locs hH hL => ?_)
  have hS : va_S (va_A (dC E ad S zs rn dy bn cn tn) s.heap.size) s.heap H locs := by rw [hH, hL]; exact va_S.rf
  have f_23 := hts (.fieldLink RX4 23 "AvalancheDesk" "archive" "LAvalancheDesk$Bulletins;") (by decide +kernel)
  have inX4 : ∀ w ∈ wsX40, w ∈ wsX4_publish := by decide +kernel
  have f_67 := hts (.fieldLink RX4 67 "AvalancheDesk" "today" "I") (by decide +kernel)
  have f_41 := hts (.fieldLink RX4 41 "AvalancheDesk" "regionCount" "I") (by decide +kernel)
  have f_11 := hts (.fieldLink RX4 11 "AvalancheDesk" "regions" "[LAvalancheDesk$Region;") (by decide +kernel)
  have ml_141 := hts (.methodLink RX4 141 Lib.Math.max.name) (by decide +kernel)
  have ms_max := hts (.static Lib.Math.max.name) (by decide +kernel)
  have mi := hts (.initialized "java/lang/Math") (by decide +kernel)
  have mc_max := hts (.code Lib.Math.max.name Lib.Math.max.code 2 (some .int)) (by decide +kernel)
  have xk_45 := hts (.classLink RX4 45 "java/lang/IllegalStateException") (by decide +kernel)
  have xi_45 := hts (.initialized "java/lang/IllegalStateException") (by decide +kernel)
  have xa_49 : ∀ w ∈ vx_atS RX4 49 "java/lang/IllegalStateException" ["java/lang/RuntimeException", "java/lang/Exception"], w.before _ s = true := ev_at hE (fun w h => hts w ((by decide +kernel : ∀ w ∈ (vx_atS RX4 49 "java/lang/IllegalStateException" ["java/lang/RuntimeException", "java/lang/Exception"]).filter goodWord, w ∈ wsX4_publish) w h)) (by decide +kernel)
  have xg_49 : ∀ w ∈ Cond.classLink RX4 45 "java/lang/IllegalStateException" :: Cond.initialized "java/lang/IllegalStateException" :: vx_atS RX4 49 "java/lang/IllegalStateException" ["java/lang/RuntimeException", "java/lang/Exception"], vx_ot w = true := by decide +kernel
  have hl := lv_entry ([.ref (ad 0)]) (n := 5) (Nat.le_of_ble_eq_true rfl)
  rw [lg_entry_eq]
  generalize (lg_sl ([.ref (ad 0)]) ++ List.replicate (5 - (lg_sl ([.ref (ad 0)])).length) Slot.unset).toArray = ls at hl ⊢
  have hl : lv_has ls 5 [(0, .ref (ad 0))] := hl
  have hP : va_P E.1 vwCl (dC E ad S zs rn dy bn cn tn) H := by rw [hH]; exact hP
  refine lv_aload_n hx hb dX4_publish_0 rfl (lv_at hl 0 rfl) ?_
  refine va_get (D := E.1) (ci := 4) (v := .ref (ad 16)) (C := RX4) (T := TX4) (N := 7) hx hb hts inX4 hown hE.1 hP 0 rfl rfl 2 (by decide) f_23 (fun _ h9 => h9) rfl dX4_publish_1 ?_
  refine lv_aload_n hx hb dX4_publish_4 rfl (lv_at hl 0 rfl) ?_
  refine va_get (D := E.1) (ci := 4) (v := .int (nI dy)) (C := RX4) (T := TX4) (N := 7) hx hb hts inX4 hown hE.1 hP 0 rfl rfl 6 (by decide) f_67 (fun _ h9 => h9) rfl dX4_publish_5 ?_
  refine va_calli (va_runV (As := [.int (nI dy)]) (rest := []) ⟨hx, hb, hml, hown, hts⟩ (kX1_hasDay l E (ad 16) (ad 17) (ad 18) zs (S 18) bn dy (by first | omega | assumption | (intro k h; have := hz k h; omega)) (by first | omega | assumption | (intro k h; have := hz k h; omega))) (cwV 1 hts gX4_publish_X1_hasDay rfl rfl rfl (by decide +kernel) ⟨Nat.le_of_ble_eq_true rfl, Nat.le_of_ble_eq_true rfl⟩) ⟨fb_R, va_recv hE.1 hP (ci := 1) (q0 := 16) rfl rfl, fun U hU hW => ⟨rfl, (by rw [hU]; exact hP.sub (ws' := [((ad 16), .inr (1, [.ref (ad 17), .ref (ad 18), .int (nI bn)])), ((ad 17), .inl (E.2.1 0, 61, .inl (nF zs))), ((ad 18), .inl (E.2.1 0, 1098, .inl (S 18)))]) [16, 17, 18] rfl), hE.warm hW⟩⟩ rfl rfl hl.1 rfl (lv_room (Nat.le_of_ble_eq_true rfl)) dX4_publish_8 ⟨by first | exact Nat.le_of_ble_eq_true rfl | (show _ ≤ 1; omega), by first | exact Nat.le_of_ble_eq_true rfl | (show _ ≤ 6; omega)⟩) hS (fun q _ h => h.elim) (fun q h => h.elim) (fun r8_0 u t H1 locs ht hvm hw hB hz1 hk1 hS => ?_)
  have hP := hP.ro hk1
  generalize H1 = H at hP hS ⊢
  subst hw
  refine lv_if_eq (tgt := 24) hx hb dX4_publish_11 (by decide) (fun c_11 => ?_) (fun c_11 => ?_)
  · have q_24 : ¬ 0 < zs dy := tellsN_no c_11
    refine lv_aload_n hx hb dX4_publish_24 rfl (lv_at hl 0 rfl) ?_
    refine va_get (D := E.1) (ci := 4) (v := .int (nI rn)) (C := RX4) (T := TX4) (N := 7) hx hb hts inX4 hown hE.1 hP 0 rfl rfl 5 (by decide) f_41 (fun _ h9 => h9) rfl dX4_publish_25 ?_
    refine mz_ifneN hx hb rn (tgt := 41) dX4_publish_28 (by decide) (by omega) (fun c_28 => ?_) (fun c_28 => ?_)
    · refine lv_iconst (v := 0) hx hb dX4_publish_41 (by decide) ?_
      refine lv_istore_n (lv' := [(1, .int 0), (0, .ref (ad 0))]) hx hb dX4_publish_42 rfl hl (by decide) rfl (fun ls hl => ?_)
      refine lv_iconst (v := 0) hx hb dX4_publish_43 (by decide) ?_
      refine lv_istore_n (lv' := [(2, .int 0), (1, .int 0), (0, .ref (ad 0))]) hx hb dX4_publish_44 rfl hl (by decide) rfl (fun ls hl => ?_)
      have KL45 : ∀ (n45 ir : Nat), ir ≤ rn → rn < n45 + ir → ∀ (H : Heap) (locs : List Loc) (ls : Array Slot), va_P E.1 vwCl (dC E ad (va_up S 18 (pbD S dy ir)) zs rn dy bn cn tn) H → va_D (va_A (dC E ad S zs rn dy bn cn tn) s.heap.size) (dC E ad (va_up S 18 (pbD S dy ir)) zs rn dy bn cn tn) → va_S (va_A (dC E ad S zs rn dy bn cn tn) s.heap.size) s.heap H locs → lv_has ls 5 [(2, .int (nI ir)), (1, .int (pgD S ir)), (0, .ref (ad 0))] → W p l e (headSpec wsX4_publish ({ frames := 6, cells := 1, slots := 6, locals := 95 } : Room)).room s m [.ref (ad 0)].toArray below meth c H locs 0 0 (vx_MQ below (va_Qi (fun (r : Int32) (_ : Unit) => 0 = tPub zs dy rn ∧ r = pgD S rn) (fun _ t => va_P E.1 vwCl (dC E ad (va_up S 18 (pbD S dy rn)) (va_up zs dy rn) rn dy (bn + 1) cn tn) t.heap) (va_A (dC E ad S zs rn dy bn cn tn) s.heap.size)) (vx_X (fun (k : Nat) => k = tPub zs dy rn ∧ ¬ k = 0) (fun Ex k t => Ex = exn ((exm 1 0 0) k) ∧ va_P E.1 vwCl (dC E ad S zs rn dy bn cn tn) t.heap) (va_A (dC E ad S zs rn dy bn cn tn) s.heap.size)) [.ref (ad 0)].toArray s 1 6 (va_A (dC E ad S zs rn dy bn cn tn) s.heap.size)) (F0 m 45 ls []) := by
        intro n45
        induction n45 with
        | zero => intro ir h1 h2; exact absurd h2 (by omega)
        | succ n45 ih45 =>
          intro ir hi45 hn45 H locs ls hP hD hS hl
          refine lv_iload_n hx hb dX4_publish_45 rfl (lv_at hl 0 rfl) ?_
          refine lv_aload_n hx hb dX4_publish_46 rfl (lv_at hl 2 rfl) ?_
          refine va_get (D := E.1) (ci := 4) (v := .int (nI rn)) (C := RX4) (T := TX4) (N := 7) hx hb hts inX4 hown hE.1 hP 0 rfl rfl 5 (by decide) f_41 (fun _ h9 => h9) rfl dX4_publish_47 ?_
          refine mz_geN hx hb ir rn (tgt := 113) dX4_publish_50 (by decide) (by omega) (by omega) (fun c_50 => ?_) (fun c_50 => ?_)
          · have hq99 : ir = rn := by omega
            subst ir
            refine lv_aload_n hx hb dX4_publish_113 rfl (lv_at hl 2 rfl) ?_
            refine va_get (D := E.1) (ci := 4) (v := .ref (ad 16)) (C := RX4) (T := TX4) (N := 7) hx hb hts inX4 hown hE.1 hP 0 rfl rfl 2 (by decide) f_23 (fun _ h9 => h9) rfl dX4_publish_114 ?_
            refine lv_aload_n hx hb dX4_publish_117 rfl (lv_at hl 2 rfl) ?_
            refine va_get (D := E.1) (ci := 4) (v := .int (nI dy)) (C := RX4) (T := TX4) (N := 7) hx hb hts inX4 hown hE.1 hP 0 rfl rfl 6 (by decide) f_67 (fun _ h9 => h9) rfl dX4_publish_118 ?_
            refine lv_aload_n hx hb dX4_publish_121 rfl (lv_at hl 2 rfl) ?_
            refine va_get (D := E.1) (ci := 4) (v := .int (nI rn)) (C := RX4) (T := TX4) (N := 7) hx hb hts inX4 hown hE.1 hP 0 rfl rfl 5 (by decide) f_41 (fun _ h9 => h9) rfl dX4_publish_122 ?_
            have hFc := va_free (wc := [((ad 16), .inr (1, [.ref (ad 17), .ref (ad 18), .int (nI bn)])), ((ad 17), .inl (E.2.1 0, 61, .inl (nF zs))), ((ad 18), .inl (E.2.1 0, 1098, .inl (pbD S dy rn)))]) hD hS hA [16, 17, 18] rfl
            refine va_callv (va_runV (As := [.int (nI dy), .int (nI rn)]) (rest := []) ⟨hx, hb, hml, hown, hts⟩ (kX1_close l E (ad 16) (ad 17) (ad 18) zs (pbD S dy rn) bn dy rn H.size (by first | omega | assumption | (intro k h; have := hz k h; omega))) (cwV 2 hts gX4_publish_X1_close rfl rfl rfl (by decide +kernel) ⟨Nat.le_of_ble_eq_true rfl, Nat.le_of_ble_eq_true rfl⟩) ⟨fb_W, va_recv hE.1 hP (ci := 1) (q0 := 16) rfl rfl, fun U hU hW => ⟨rfl, by rw [hU], (by rw [hU]; exact hP.sub (ws' := [((ad 16), .inr (1, [.ref (ad 17), .ref (ad 18), .int (nI bn)])), ((ad 17), .inl (E.2.1 0, 61, .inl (nF zs))), ((ad 18), .inl (E.2.1 0, 1098, .inl (pbD S dy rn)))]) [16, 17, 18] rfl), (hD.sub (ws' := [((ad 16), .inr (1, [.ref (ad 17), .ref (ad 18), .int (nI bn)])), ((ad 17), .inl (E.2.1 0, 61, .inl (nF zs))), ((ad 18), .inl (E.2.1 0, 1098, .inl (pbD S dy rn)))]) [16, 17, 18] (by decide) rfl).weaken (fun _ _ _ _ => trivial), hE.warm hW⟩⟩ rfl rfl hl.1 rfl (lv_room (Nat.le_of_ble_eq_true rfl)) dX4_publish_125 ⟨by first | exact Nat.le_of_ble_eq_true rfl | (show _ ≤ 1; omega), by first | exact Nat.le_of_ble_eq_true rfl | (show _ ≤ 6; omega)⟩) hS (fun q _ h => hFc q h) hFc (fun u t H1 locs ht hvm hw hB hz1 hk1 hS => ?_)
            rw [ht] at hB
            obtain ⟨hP, hD⟩ := va_put2 (ws' := (dC E ad (va_up S 18 (pbD S dy rn)) (va_up zs dy rn) rn dy (bn + 1) cn tn)) hP hD [16, 17, 18] rfl hk1 hB rfl (by simp only [List.map_cons, List.map_nil]) rfl
            generalize H1 = H at hP hS ⊢
            refine lv_iload_n hx hb dX4_publish_128 rfl (lv_at hl 1 rfl) ?_
            refine W.widen (k := 1) (n := 6) (by omega) (by omega) ?_
            refine vx_ret ?_
            have hB9 : va_P E.1 vwCl (dC E ad (va_up S 18 (pbD S dy rn)) (va_up zs dy rn) rn dy (bn + 1) cn tn) H := by exact hP
            exact W.iret (v := pgD S rn) hx hb hr (fun t ht hW => ⟨⟨_, (), rfl, ⟨(by first | (simp only [tPub, if_pos c_11, if_neg q_24, if_neg c_28, eq_self, if_true, i10f, if_false]; done) | (try unfold tPub; simp only [if_pos c_11, if_neg q_24, if_neg c_28, eq_self, if_true, i10f, if_false]; done) | (try unfold tPub; rfl) | rfl), (by first | (simp only [if_pos c_11, if_neg q_24, if_neg c_28, eq_self, if_true, i10f, if_false]; done) | rfl)⟩, (by subst ht; exact hB9)⟩, hS.F ht⟩) hS.2.2 dX4_publish_129
          · refine lv_aload_n hx hb dX4_publish_53 rfl (lv_at hl 2 rfl) ?_
            refine va_get (D := E.1) (ci := 4) (v := .ref (ad 1)) (C := RX4) (T := TX4) (N := 7) hx hb hts inX4 hown hE.1 hP 0 rfl rfl 0 (by decide) f_11 (fun _ h9 => h9) rfl dX4_publish_54 ?_
            refine lv_iload_n hx hb dX4_publish_57 rfl (lv_at hl 0 rfl) ?_
            refine mz_ald hx hb hE.1 hP 1 1 (n := 6) rfl rfl ir (by omega) (by omega) (y := ad (2 + 2 * ir)) rfl dX4_publish_58 ?_
            refine va_calli (va_runV (As := []) (rest := []) ⟨hx, hb, hml, hown, hts⟩ (kX2_findLevel l E (ad (2 + 2 * ir)) (ad (3 + 2 * ir)) (S (2 + 2 * ir)) (S (3 + 2 * ir))) (cwV 0 hts gX4_publish_X2_findLevel rfl rfl rfl (by decide +kernel) ⟨Nat.le_of_ble_eq_true rfl, Nat.le_of_ble_eq_true rfl⟩) ⟨fb_R, va_recv hE.1 hP (ci := 2) (q0 := 2 + 2 * ir) (a := (ad (2 + 2 * ir))) (fs := [.ref (ad (3 + 2 * ir)), .int ((S (2 + 2 * ir)) 1), .int ((S (2 + 2 * ir)) 2), .int ((S (2 + 2 * ir)) 3), .int ((S (2 + 2 * ir)) 4), .int ((S (2 + 2 * ir)) 5)]) rfl (by rcases (show ir = 0 ∨ ir = 1 ∨ ir = 2 ∨ ir = 3 ∨ ir = 4 ∨ ir = 5 from by omega) with rfl | rfl | rfl | rfl | rfl | rfl <;> rfl), fun U hU hW => ⟨rfl, (by rw [hU]; exact hP.sub (ws' := [((ad (2 + 2 * ir)), .inr (2, [.ref (ad (3 + 2 * ir)), .int ((S (2 + 2 * ir)) 1), .int ((S (2 + 2 * ir)) 2), .int ((S (2 + 2 * ir)) 3), .int ((S (2 + 2 * ir)) 4), .int ((S (2 + 2 * ir)) 5)])), ((ad (3 + 2 * ir)), .inl (E.2.1 0, 60, .inl (S (3 + 2 * ir))))]) [2 + 2 * ir, 3 + 2 * ir] (by rcases (show ir = 0 ∨ ir = 1 ∨ ir = 2 ∨ ir = 3 ∨ ir = 4 ∨ ir = 5 from by omega) with rfl | rfl | rfl | rfl | rfl | rfl <;> rfl)), hE.warm hW⟩⟩ rfl rfl hl.1 rfl (lv_room (Nat.le_of_ble_eq_true rfl)) dX4_publish_59 ⟨by first | exact Nat.le_of_ble_eq_true rfl | (show _ ≤ 1; omega), by first | exact Nat.le_of_ble_eq_true rfl | (show _ ≤ 6; omega)⟩) hS (fun q _ h => h.elim) (fun q h => h.elim) (fun r59_2 u t H1 locs ht hvm hw hB hz1 hk1 hS => ?_)
            have hP := hP.ro hk1
            generalize H1 = H at hP hS ⊢
            subst hw
            refine mz_fold (y := levA (S (3 + 2 * ir))) (rfl) ?_
            refine lv_istore_n (lv' := [(3, .int (levA (S (3 + 2 * ir)))), (2, .int (nI ir)), (1, .int (pgD S ir)), (0, .ref (ad 0))]) hx hb dX4_publish_62 rfl hl (by decide) rfl (fun ls hl => ?_)
            refine lv_aload_n hx hb dX4_publish_63 rfl (lv_at hl 3 rfl) ?_
            refine va_get (D := E.1) (ci := 4) (v := .ref (ad 1)) (C := RX4) (T := TX4) (N := 7) hx hb hts inX4 hown hE.1 hP 0 rfl rfl 0 (by decide) f_11 (fun _ h9 => h9) rfl dX4_publish_64 ?_
            refine lv_iload_n hx hb dX4_publish_67 rfl (lv_at hl 1 rfl) ?_
            refine mz_ald hx hb hE.1 hP 1 1 (n := 6) rfl rfl ir (by omega) (by omega) (y := ad (2 + 2 * ir)) rfl dX4_publish_68 ?_
            refine lv_iload_n hx hb dX4_publish_69 rfl (lv_at hl 0 rfl) ?_
            refine va_calli (va_runV (As := [.int (levA (S (3 + 2 * ir)))]) (rest := []) ⟨hx, hb, hml, hown, hts⟩ (kX2_findCore l E (ad (2 + 2 * ir)) (ad (3 + 2 * ir)) (S (2 + 2 * ir)) (S (3 + 2 * ir)) (levA (S (3 + 2 * ir)))) (cwV 1 hts gX4_publish_X2_findCore rfl rfl rfl (by decide +kernel) ⟨Nat.le_of_ble_eq_true rfl, Nat.le_of_ble_eq_true rfl⟩) ⟨fb_R, va_recv hE.1 hP (ci := 2) (q0 := 2 + 2 * ir) (a := (ad (2 + 2 * ir))) (fs := [.ref (ad (3 + 2 * ir)), .int ((S (2 + 2 * ir)) 1), .int ((S (2 + 2 * ir)) 2), .int ((S (2 + 2 * ir)) 3), .int ((S (2 + 2 * ir)) 4), .int ((S (2 + 2 * ir)) 5)]) rfl (by rcases (show ir = 0 ∨ ir = 1 ∨ ir = 2 ∨ ir = 3 ∨ ir = 4 ∨ ir = 5 from by omega) with rfl | rfl | rfl | rfl | rfl | rfl <;> rfl), fun U hU hW => ⟨rfl, (by rw [hU]; exact hP.sub (ws' := [((ad (2 + 2 * ir)), .inr (2, [.ref (ad (3 + 2 * ir)), .int ((S (2 + 2 * ir)) 1), .int ((S (2 + 2 * ir)) 2), .int ((S (2 + 2 * ir)) 3), .int ((S (2 + 2 * ir)) 4), .int ((S (2 + 2 * ir)) 5)])), ((ad (3 + 2 * ir)), .inl (E.2.1 0, 60, .inl (S (3 + 2 * ir))))]) [2 + 2 * ir, 3 + 2 * ir] (by rcases (show ir = 0 ∨ ir = 1 ∨ ir = 2 ∨ ir = 3 ∨ ir = 4 ∨ ir = 5 from by omega) with rfl | rfl | rfl | rfl | rfl | rfl <;> rfl)), hE.warm hW⟩⟩ rfl rfl hl.1 rfl (lv_room (Nat.le_of_ble_eq_true rfl)) dX4_publish_70 ⟨by first | exact Nat.le_of_ble_eq_true rfl | (show _ ≤ 1; omega), by first | exact Nat.le_of_ble_eq_true rfl | (show _ ≤ 6; omega)⟩) hS (fun q _ h => h.elim) (fun q h => h.elim) (fun r70_3 u t H1 locs ht hvm hw hB hz1 hk1 hS => ?_)
            have hP := hP.ro hk1
            generalize H1 = H at hP hS ⊢
            subst hw
            refine mz_fold (y := corD (S (3 + 2 * ir))) (rfl) ?_
            refine lv_istore (lv' := [(4, .int (corD (S (3 + 2 * ir)))), (3, .int (levA (S (3 + 2 * ir)))), (2, .int (nI ir)), (1, .int (pgD S ir)), (0, .ref (ad 0))]) hx hb dX4_publish_73 hl (by decide) rfl (fun ls hl => ?_)
            refine lv_aload_n hx hb dX4_publish_75 rfl (lv_at hl 4 rfl) ?_
            refine va_get (D := E.1) (ci := 4) (v := .ref (ad 16)) (C := RX4) (T := TX4) (N := 7) hx hb hts inX4 hown hE.1 hP 0 rfl rfl 2 (by decide) f_23 (fun _ h9 => h9) rfl dX4_publish_76 ?_
            refine lv_aload_n hx hb dX4_publish_79 rfl (lv_at hl 4 rfl) ?_
            refine va_get (D := E.1) (ci := 4) (v := .int (nI dy)) (C := RX4) (T := TX4) (N := 7) hx hb hts inX4 hown hE.1 hP 0 rfl rfl 6 (by decide) f_67 (fun _ h9 => h9) rfl dX4_publish_80 ?_
            refine lv_iload_n hx hb dX4_publish_83 rfl (lv_at hl 2 rfl) ?_
            refine lv_iload_n hx hb dX4_publish_84 rfl (lv_at hl 1 rfl) ?_
            refine lv_iload hx hb dX4_publish_85 (lv_at hl 0 rfl) ?_
            refine lv_aload_n hx hb dX4_publish_87 rfl (lv_at hl 4 rfl) ?_
            refine va_get (D := E.1) (ci := 4) (v := .ref (ad 1)) (C := RX4) (T := TX4) (N := 7) hx hb hts inX4 hown hE.1 hP 0 rfl rfl 0 (by decide) f_11 (fun _ h9 => h9) rfl dX4_publish_88 ?_
            refine lv_iload_n hx hb dX4_publish_91 rfl (lv_at hl 2 rfl) ?_
            refine mz_ald hx hb hE.1 hP 1 1 (n := 6) rfl rfl ir (by omega) (by omega) (y := ad (2 + 2 * ir)) rfl dX4_publish_92 ?_
            refine lv_iload hx hb dX4_publish_93 (lv_at hl 0 rfl) ?_
            refine va_calli (va_runV (As := [.int (corD (S (3 + 2 * ir)))]) (rest := [.int (corD (S (3 + 2 * ir))), .int (levA (S (3 + 2 * ir))), .int (nI ir), .int (nI dy), .ref (ad 16)]) ⟨hx, hb, hml, hown, hts⟩ (kX2_findProblem l E (ad (2 + 2 * ir)) (ad (3 + 2 * ir)) (S (2 + 2 * ir)) (S (3 + 2 * ir)) (corD (S (3 + 2 * ir)))) (cwV 1 hts gX4_publish_X2_findProblem rfl rfl rfl (by decide +kernel) ⟨Nat.le_of_ble_eq_true rfl, Nat.le_of_ble_eq_true rfl⟩) ⟨fb_R, va_recv hE.1 hP (ci := 2) (q0 := 2 + 2 * ir) (a := (ad (2 + 2 * ir))) (fs := [.ref (ad (3 + 2 * ir)), .int ((S (2 + 2 * ir)) 1), .int ((S (2 + 2 * ir)) 2), .int ((S (2 + 2 * ir)) 3), .int ((S (2 + 2 * ir)) 4), .int ((S (2 + 2 * ir)) 5)]) rfl (by rcases (show ir = 0 ∨ ir = 1 ∨ ir = 2 ∨ ir = 3 ∨ ir = 4 ∨ ir = 5 from by omega) with rfl | rfl | rfl | rfl | rfl | rfl <;> rfl), fun U hU hW => ⟨rfl, (by rw [hU]; exact hP.sub (ws' := [((ad (2 + 2 * ir)), .inr (2, [.ref (ad (3 + 2 * ir)), .int ((S (2 + 2 * ir)) 1), .int ((S (2 + 2 * ir)) 2), .int ((S (2 + 2 * ir)) 3), .int ((S (2 + 2 * ir)) 4), .int ((S (2 + 2 * ir)) 5)])), ((ad (3 + 2 * ir)), .inl (E.2.1 0, 60, .inl (S (3 + 2 * ir))))]) [2 + 2 * ir, 3 + 2 * ir] (by rcases (show ir = 0 ∨ ir = 1 ∨ ir = 2 ∨ ir = 3 ∨ ir = 4 ∨ ir = 5 from by omega) with rfl | rfl | rfl | rfl | rfl | rfl <;> rfl)), hE.warm hW⟩⟩ rfl rfl hl.1 rfl (lv_room (Nat.le_of_ble_eq_true rfl)) dX4_publish_95 ⟨by first | exact Nat.le_of_ble_eq_true rfl | (show _ ≤ 1; omega), by first | exact Nat.le_of_ble_eq_true rfl | (show _ ≤ 6; omega)⟩) hS (fun q _ h => h.elim) (fun q h => h.elim) (fun r95_4 u t H1 locs ht hvm hw hB hz1 hk1 hS => ?_)
            have hP := hP.ro hk1
            generalize H1 = H at hP hS ⊢
            subst hw
            refine mz_fold (y := manD (S (3 + 2 * ir))) (rfl) ?_
            have hFc := va_free (wc := [((ad 16), .inr (1, [.ref (ad 17), .ref (ad 18), .int (nI bn)])), ((ad 17), .inl (E.2.1 0, 61, .inl (nF zs))), ((ad 18), .inl (E.2.1 0, 1098, .inl (pbD S dy ir)))]) hD hS hA [16, 17, 18] rfl
            refine va_callv (va_runV (As := [.int (nI dy), .int (nI ir), .int (levA (S (3 + 2 * ir))), .int (corD (S (3 + 2 * ir))), .int (manD (S (3 + 2 * ir)))]) (rest := []) ⟨hx, hb, hml, hown, hts⟩ (kX1_write l E (ad 16) (ad 17) (ad 18) zs (pbD S dy ir) bn dy ir (levA (S (3 + 2 * ir))) (corD (S (3 + 2 * ir))) (manD (S (3 + 2 * ir))) H.size (by first | omega | assumption | (intro k h; have := hz k h; omega)) (by first | omega | assumption | (intro k h; have := hz k h; omega))) (cwV 5 hts gX4_publish_X1_write rfl rfl rfl (by decide +kernel) ⟨Nat.le_of_ble_eq_true rfl, Nat.le_of_ble_eq_true rfl⟩) ⟨fb_W, va_recv hE.1 hP (ci := 1) (q0 := 16) rfl rfl, fun U hU hW => ⟨rfl, by rw [hU], (by rw [hU]; exact hP.sub (ws' := [((ad 16), .inr (1, [.ref (ad 17), .ref (ad 18), .int (nI bn)])), ((ad 17), .inl (E.2.1 0, 61, .inl (nF zs))), ((ad 18), .inl (E.2.1 0, 1098, .inl (pbD S dy ir)))]) [16, 17, 18] rfl), (hD.sub (ws' := [((ad 16), .inr (1, [.ref (ad 17), .ref (ad 18), .int (nI bn)])), ((ad 17), .inl (E.2.1 0, 61, .inl (nF zs))), ((ad 18), .inl (E.2.1 0, 1098, .inl (pbD S dy ir)))]) [16, 17, 18] (by decide) rfl).weaken (fun _ _ _ _ => trivial), hE.warm hW⟩⟩ rfl rfl hl.1 rfl (lv_room (Nat.le_of_ble_eq_true rfl)) dX4_publish_98 ⟨by first | exact Nat.le_of_ble_eq_true rfl | (show _ ≤ 1; omega), by first | exact Nat.le_of_ble_eq_true rfl | (show _ ≤ 6; omega)⟩) hS (fun q _ h => hFc q h) hFc (fun u t H1 locs ht hvm hw hB hz1 hk1 hS => ?_)
            rw [ht] at hB
            obtain ⟨hP, hD⟩ := va_put2 (ws' := (dC E ad (va_up S 18 (upd (upd (upd (pbD S dy ir) ((dy * 6 + ir) * 3 + 0) (levA (S (3 + 2 * ir)))) ((dy * 6 + ir) * 3 + 1) (corD (S (3 + 2 * ir)))) ((dy * 6 + ir) * 3 + 2) (manD (S (3 + 2 * ir))))) zs rn dy bn cn tn)) hP hD [16, 17, 18] rfl hk1 hB rfl (by simp only [List.map_cons, List.map_nil]) rfl
            generalize H1 = H at hP hS ⊢
            refine lv_iload_n hx hb dX4_publish_101 rfl (lv_at hl 3 rfl) ?_
            refine lv_iload_n hx hb dX4_publish_102 rfl (lv_at hl 1 rfl) ?_
            refine mz_max hx hb (hml.trans hl.1.symm) hown ml_141 ms_max mi mc_max (Nat.le_of_ble_eq_true rfl) (Nat.le_of_ble_eq_true rfl) (by first | exact Nat.le_of_ble_eq_true rfl | (show _ ≤ 1; omega)) (by first | exact Nat.le_of_ble_eq_true rfl | (show _ ≤ 6; omega)) dX4_publish_103 ?_
            refine lv_istore_n (lv' := [(1, .int (mx (pgD S ir) (levA (S (3 + 2 * ir))))), (4, .int (corD (S (3 + 2 * ir)))), (3, .int (levA (S (3 + 2 * ir)))), (2, .int (nI ir)), (0, .ref (ad 0))]) hx hb dX4_publish_106 rfl hl (by decide) rfl (fun ls hl => ?_)
            refine mz_iinc (k := 3) (lv' := [(2, .int (nI (ir + 1))), (1, .int (mx (pgD S ir) (levA (S (3 + 2 * ir))))), (4, .int (corD (S (3 + 2 * ir)))), (3, .int (levA (S (3 + 2 * ir)))), (0, .ref (ad 0))]) hx hb ir 1 dX4_publish_107 hl rfl (by decide) rfl (fun ls hl => ?_)
            refine lv_goto (tgt := 45) hx hb dX4_publish_110 (by decide) ?_
            exact ih45 (ir + 1) (by omega) (by omega) _ _ _ hP hD hS (lv_sub hl [0, 1, 4] rfl)
      obtain ⟨hP, hD⟩ : va_P E.1 vwCl (dC E ad (va_up S 18 (pbD S dy 0)) zs rn dy bn cn tn) H ∧ va_D _ (dC E ad (va_up S 18 (pbD S dy 0)) zs rn dy bn cn tn) := by rw [show va_up S 18 (pbD S dy 0) = S from up_own S 18]; exact ⟨hP, hD⟩
      exact KL45 (rn + 1 - 0) 0 (by omega) (by omega) _ _ _ hP hD hS (lv_sub hl [0, 1, 2] rfl)
    · exact vx_throwS (own := RX4) (cls := "java/lang/IllegalStateException") (text := "there are no regions") (names := ["java/lang/RuntimeException", "java/lang/Exception"]) (ik := 45) (is := 135) (ic := 49) (sa := E.2.2 135) hx hb hlt hown (by decide +kernel) (by decide +kernel) xk_45 xi_45 (hE.2.2.1 (135, "there are no regions") (by decide +kernel)) xa_49 xg_49 hU9.1 hU9.2 hS (hl.1.trans hml.symm) dX4_publish_31 dX4_publish_34 dX4_publish_35 dX4_publish_37 dX4_publish_40 (fun x9 hx9 => (htb x9 hx9).elim) (Nat.le_of_ble_eq_true rfl) (Nat.le_of_ble_eq_true rfl) (by first | exact Nat.le_of_ble_eq_true rfl | (show _ ≤ 1; omega)) (by first | exact Nat.le_of_ble_eq_true rfl | (show _ ≤ 6; omega)) hlocks (fun t hal h1 h2 => ⟨1, ⟨by first | (simp only [tPub, if_pos c_11, if_neg q_24, if_pos c_28, eq_self, if_true, i10f, if_false]; done) | (try unfold tPub; simp only [if_pos c_11, if_neg q_24, if_pos c_28, eq_self, if_true, i10f, if_false]; done) | (try unfold tPub; rfl) | rfl, by decide⟩, ⟨rfl, hP.later h2⟩, hS.Ft h1 h2⟩) hS.2.2 (by omega) (by omega)
  · have q_14 : 0 < zs dy := tellsN_yes c_11
    exact vx_throwS (own := RX4) (cls := "java/lang/IllegalStateException") (text := "a bulletin was published on this day") (names := ["java/lang/RuntimeException", "java/lang/Exception"]) (ik := 45) (is := 133) (ic := 49) (sa := E.2.2 133) hx hb hlt hown (by decide +kernel) (by decide +kernel) xk_45 xi_45 (hE.2.2.1 (133, "a bulletin was published on this day") (by decide +kernel)) xa_49 xg_49 hU9.1 hU9.2 hS (hl.1.trans hml.symm) dX4_publish_14 dX4_publish_17 dX4_publish_18 dX4_publish_20 dX4_publish_23 (fun x9 hx9 => (htb x9 hx9).elim) (Nat.le_of_ble_eq_true rfl) (Nat.le_of_ble_eq_true rfl) (by first | exact Nat.le_of_ble_eq_true rfl | (show _ ≤ 1; omega)) (by first | exact Nat.le_of_ble_eq_true rfl | (show _ ≤ 6; omega)) hlocks (fun t hal h1 h2 => ⟨1, ⟨by first | (simp only [tPub, if_neg c_11, if_pos q_14, eq_self, if_true, i10f, if_false]; done) | (try unfold tPub; simp only [if_neg c_11, if_pos q_14, eq_self, if_true, i10f, if_false]; done) | (try unfold tPub; rfl) | rfl, by decide⟩, ⟨rfl, hP.later h2⟩, hS.Ft h1 h2⟩) hS.2.2 (by omega) (by omega)
set_option maxHeartbeats 4000000 in
set_option maxRecDepth 100000 in
theorem kX4_bulletin (l : Launch) (hlt : l.stackTraces = false) (E : ev_T) (ad : Nat → Nat) (S : Nat → Nat → Int32) (zs : Nat → Nat) (rn : Nat) (dy : Nat) (bn : Nat) (cn : Nat) (tn : Nat) (xd : Int32) (xr : Int32) (xw : Int32) (hrn : rn ≤ 6) (hdy : dy ≤ 60) (hz : ∀ k, k ≤ 60 → zs k ≤ 6) : vx_Met l yX4_bulletin wsX4_bulletin ({ frames := 6, cells := 1, slots := 6, locals := 82 } : Room) (va_Pc [.ref (ad 0), .int xd, .int xr, .int xw] (pr_X E (dC E ad S zs rn dy bn cn tn))) (va_Qi (fun (r : Int32) (_ : Unit) => 0 = tBul zs xd xr xw ∧ r = S 18 (((Int32.toNatClampNeg xd) * 6 + (Int32.toNatClampNeg xr)) * 3 + (Int32.toNatClampNeg xw))) (fun _ _ => True) (fun _ : Nat => False)) (vx_X (fun (k : Nat) => k = tBul zs xd xr xw ∧ ¬ k = 0) (fun Ex k _ => Ex = exn ((exm 3 0 0) k)) (fun _ : Nat => False)) 1 6 (fun _ : Nat => False) := by
  refine vx_ofW (cc := cX4_bulletin) (maxL := 4) (ret := (some .int)) (by decide) rfl ?_
  intro p e s m args below meth c s₁ B hml htb hv
  obtain ⟨rfl, hP, hE, hU9⟩ := hv
  have hx := B.exec
  have hb := B.bytes
  have hr := B.returns
  have hts := atoms_spec (ws := wsX4_bulletin) B.pre
  have hown : s.vm.findClass RX4 = some m.cls := findClass_of_methodNamed B.named
  have hlocks := B.notSynchronized
  refine mz_start (fun H locs hH hL => ?_)
  have hS : va_S (fun _ : Nat => False) s.heap H locs := by rw [hH, hL]; exact va_S.rf
  have f_23 := hts (.fieldLink RX4 23 "AvalancheDesk" "archive" "LAvalancheDesk$Bulletins;") (by decide +kernel)
  have inX4 : ∀ w ∈ wsX40, w ∈ wsX4_bulletin := by decide +kernel
  have xk_101 := hts (.classLink RX4 101 "java/lang/IndexOutOfBoundsException") (by decide +kernel)
  have xi_101 := hts (.initialized "java/lang/IndexOutOfBoundsException") (by decide +kernel)
  have xa_105 : ∀ w ∈ vx_atS RX4 105 "java/lang/IndexOutOfBoundsException" ["java/lang/RuntimeException", "java/lang/Exception"], w.before _ s = true := ev_at hE (fun w h => hts w ((by decide +kernel : ∀ w ∈ (vx_atS RX4 105 "java/lang/IndexOutOfBoundsException" ["java/lang/RuntimeException", "java/lang/Exception"]).filter goodWord, w ∈ wsX4_bulletin) w h)) (by decide +kernel)
  have xg_105 : ∀ w ∈ Cond.classLink RX4 101 "java/lang/IndexOutOfBoundsException" :: Cond.initialized "java/lang/IndexOutOfBoundsException" :: vx_atS RX4 105 "java/lang/IndexOutOfBoundsException" ["java/lang/RuntimeException", "java/lang/Exception"], vx_ot w = true := by decide +kernel
  have hl := lv_entry ([.ref (ad 0), .int xd, .int xr, .int xw]) (n := 4) (Nat.le_of_ble_eq_true rfl)
  rw [lg_entry_eq]
  generalize (lg_sl ([.ref (ad 0), .int xd, .int xr, .int xw]) ++ List.replicate (4 - (lg_sl ([.ref (ad 0), .int xd, .int xr, .int xw])).length) Slot.unset).toArray = ls at hl ⊢
  have hl : lv_has ls 4 [(0, .ref (ad 0)), (1, .int xd), (2, .int xr), (3, .int xw)] := hl
  have hP : va_P E.1 vwCl (dC E ad S zs rn dy bn cn tn) H := by rw [hH]; exact hP
  refine lv_aload_n hx hb dX4_bulletin_0 rfl (lv_at hl 0 rfl) ?_
  refine va_get (D := E.1) (ci := 4) (v := .ref (ad 16)) (C := RX4) (T := TX4) (N := 7) hx hb hts inX4 hown hE.1 hP 0 rfl rfl 2 (by decide) f_23 (fun _ h9 => h9) rfl dX4_bulletin_1 ?_
  refine lv_iload_n hx hb dX4_bulletin_4 rfl (lv_at hl 1 rfl) ?_
  refine lv_iload_n hx hb dX4_bulletin_5 rfl (lv_at hl 2 rfl) ?_
  refine va_calli (va_runV (As := [.int xd, .int xr]) (rest := []) ⟨hx, hb, hml, hown, hts⟩ (kX1_tells l E (ad 16) (ad 17) (ad 18) zs (S 18) bn xd xr (by first | omega | assumption | (intro k h; have := hz k h; omega))) (cwV 2 hts gX4_bulletin_X1_tells rfl rfl rfl (by decide +kernel) ⟨Nat.le_of_ble_eq_true rfl, Nat.le_of_ble_eq_true rfl⟩) ⟨fb_R, va_recv hE.1 hP (ci := 1) (q0 := 16) rfl rfl, fun U hU hW => ⟨rfl, (by rw [hU]; exact hP.sub (ws' := [((ad 16), .inr (1, [.ref (ad 17), .ref (ad 18), .int (nI bn)])), ((ad 17), .inl (E.2.1 0, 61, .inl (nF zs))), ((ad 18), .inl (E.2.1 0, 1098, .inl (S 18)))]) [16, 17, 18] rfl), hE.warm hW⟩⟩ rfl rfl hl.1 rfl (lv_room (Nat.le_of_ble_eq_true rfl)) dX4_bulletin_6 ⟨by first | exact Nat.le_of_ble_eq_true rfl | (show _ ≤ 1; omega), by first | exact Nat.le_of_ble_eq_true rfl | (show _ ≤ 6; omega)⟩) hS (fun q _ h => h.elim) (fun q h => h.elim) (fun r6_0 u t H1 locs ht hvm hw hB hz1 hk1 hS => ?_)
  have hP := hP.ro hk1
  generalize H1 = H at hP hS ⊢
  subst hw
  refine lv_if_ne (tgt := 22) hx hb dX4_bulletin_9 (by decide) (fun c_9 => ?_) (fun c_9 => ?_)
  · obtain ⟨jd, jr, hjd, hjr, rfl, rfl, u1, u2⟩ := tells_ok hz c_9
    have hz9 := hz jd (by omega)
    refine lv_iload_n hx hb dX4_bulletin_22 rfl (lv_at hl 3 rfl) ?_
    refine lv_if_lt (tgt := 31) hx hb dX4_bulletin_23 (by decide) (fun c_23 => ?_) (fun c_23 => ?_)
    · have q_31 : isInF xw 0 2 = 0 := by first | exact isIn_lo 3 c_23 | exact isIn_hi 3 (by first | rfl | decide) (by first | decide | omega) c_28
      exact vx_throwS (own := RX4) (cls := "java/lang/IndexOutOfBoundsException") (text := "a bulletin tells nothing like this") (names := ["java/lang/RuntimeException", "java/lang/Exception"]) (ik := 101) (is := 156) (ic := 105) (sa := E.2.2 156) hx hb hlt hown (by decide +kernel) (by decide +kernel) xk_101 xi_101 (hE.2.2.1 (156, "a bulletin tells nothing like this") (by decide +kernel)) xa_105 xg_105 hU9.1 hU9.2 hS (hl.1.trans hml.symm) dX4_bulletin_31 dX4_bulletin_34 dX4_bulletin_35 dX4_bulletin_37 dX4_bulletin_40 (fun x9 hx9 => (htb x9 hx9).elim) (Nat.le_of_ble_eq_true rfl) (Nat.le_of_ble_eq_true rfl) (by first | exact Nat.le_of_ble_eq_true rfl | (show _ ≤ 1; omega)) (by first | exact Nat.le_of_ble_eq_true rfl | (show _ ≤ 6; omega)) hlocks (fun t hal h1 h2 => ⟨1, ⟨by unfold tBul; rw [if_neg u1, if_neg u2, if_pos q_31], by decide⟩, rfl, hS.Ft h1 h2⟩) hS.2.2 (by omega) (by omega)
    · refine lv_iload_n hx hb dX4_bulletin_26 rfl (lv_at hl 3 rfl) ?_
      refine lv_iconst (v := 3) hx hb dX4_bulletin_27 (by decide) ?_
      refine mz_lt (tgt := 41) hx hb dX4_bulletin_28 (by decide) (fun c_28 => ?_) (fun c_28 => ?_)
      · have q_41 : ¬ isInF xw 0 2 = 0 := isIn_ok 3 (by first | rfl | decide) (by first | decide | omega) c_23 c_28
        have p_41 : ¬ inF xw 3 = 0 := by rw [← isIn_n 3 (h := 2) (by first | rfl | decide) (by first | decide | omega)]; exact q_41
        obtain ⟨jw, hjw, rfl⟩ := inF_some p_41 (by first | decide | omega)
        refine lv_aload_n hx hb dX4_bulletin_41 rfl (lv_at hl 0 rfl) ?_
        refine va_get (D := E.1) (ci := 4) (v := .ref (ad 16)) (C := RX4) (T := TX4) (N := 7) hx hb hts inX4 hown hE.1 hP 0 rfl rfl 2 (by decide) f_23 (fun _ h9 => h9) rfl dX4_bulletin_42 ?_
        refine lv_iload_n hx hb dX4_bulletin_45 rfl (lv_at hl 1 rfl) ?_
        refine lv_iload_n hx hb dX4_bulletin_46 rfl (lv_at hl 2 rfl) ?_
        refine lv_iload_n hx hb dX4_bulletin_47 rfl (lv_at hl 3 rfl) ?_
        refine va_calli (va_runV (As := [.int (nI jd), .int (nI jr), .int (nI jw)]) (rest := []) ⟨hx, hb, hml, hown, hts⟩ (kX1_read l E (ad 16) (ad 17) (ad 18) zs (S 18) bn jd jr jw (by first | omega | assumption | (intro k h; have := hz k h; omega)) (by first | omega | assumption | (intro k h; have := hz k h; omega)) (by first | omega | assumption | (intro k h; have := hz k h; omega))) (cwV 3 hts gX4_bulletin_X1_read rfl rfl rfl (by decide +kernel) ⟨Nat.le_of_ble_eq_true rfl, Nat.le_of_ble_eq_true rfl⟩) ⟨fb_R, va_recv hE.1 hP (ci := 1) (q0 := 16) rfl rfl, fun U hU hW => ⟨rfl, (by rw [hU]; exact hP.sub (ws' := [((ad 16), .inr (1, [.ref (ad 17), .ref (ad 18), .int (nI bn)])), ((ad 17), .inl (E.2.1 0, 61, .inl (nF zs))), ((ad 18), .inl (E.2.1 0, 1098, .inl (S 18)))]) [16, 17, 18] rfl), hE.warm hW⟩⟩ rfl rfl hl.1 rfl (lv_room (Nat.le_of_ble_eq_true rfl)) dX4_bulletin_48 ⟨by first | exact Nat.le_of_ble_eq_true rfl | (show _ ≤ 1; omega), by first | exact Nat.le_of_ble_eq_true rfl | (show _ ≤ 6; omega)⟩) hS (fun q _ h => h.elim) (fun q h => h.elim) (fun r48_1 u t H1 locs ht hvm hw hB hz1 hk1 hS => ?_)
        have hP := hP.ro hk1
        generalize H1 = H at hP hS ⊢
        subst hw
        refine W.widen (k := 1) (n := 6) (by omega) (by omega) ?_
        refine vx_ret ?_
        exact W.iret (v := (S 18) ((jd * 6 + jr) * 3 + jw)) hx hb hr (fun t ht hW => ⟨⟨_, (), rfl, ⟨(by unfold tBul; rw [if_neg u1, if_neg u2, if_neg q_41]), (by first | (simp only [if_neg c_9, if_neg u1, if_neg u2, nI_clamp (show jd < 2 ^ 31 by omega), nI_clamp (show jr < 2 ^ 31 by omega), if_neg c_23, if_pos c_28, if_neg q_41, nI_clamp (show jw < 2 ^ 31 by omega), eq_self, if_true, i10f, if_false]; done) | rfl)⟩, trivial⟩, hS.F ht⟩) hS.2.2 dX4_bulletin_51
      · have q_31 : isInF xw 0 2 = 0 := by first | exact isIn_lo 3 c_23 | exact isIn_hi 3 (by first | rfl | decide) (by first | decide | omega) c_28
        exact vx_throwS (own := RX4) (cls := "java/lang/IndexOutOfBoundsException") (text := "a bulletin tells nothing like this") (names := ["java/lang/RuntimeException", "java/lang/Exception"]) (ik := 101) (is := 156) (ic := 105) (sa := E.2.2 156) hx hb hlt hown (by decide +kernel) (by decide +kernel) xk_101 xi_101 (hE.2.2.1 (156, "a bulletin tells nothing like this") (by decide +kernel)) xa_105 xg_105 hU9.1 hU9.2 hS (hl.1.trans hml.symm) dX4_bulletin_31 dX4_bulletin_34 dX4_bulletin_35 dX4_bulletin_37 dX4_bulletin_40 (fun x9 hx9 => (htb x9 hx9).elim) (Nat.le_of_ble_eq_true rfl) (Nat.le_of_ble_eq_true rfl) (by first | exact Nat.le_of_ble_eq_true rfl | (show _ ≤ 1; omega)) (by first | exact Nat.le_of_ble_eq_true rfl | (show _ ≤ 6; omega)) hlocks (fun t hal h1 h2 => ⟨1, ⟨by unfold tBul; rw [if_neg u1, if_neg u2, if_pos q_31], by decide⟩, rfl, hS.Ft h1 h2⟩) hS.2.2 (by omega) (by omega)
  · exact vx_throwS (own := RX4) (cls := "java/lang/IndexOutOfBoundsException") (text := "no bulletin of this day tells of such a region") (names := ["java/lang/RuntimeException", "java/lang/Exception"]) (ik := 101) (is := 154) (ic := 105) (sa := E.2.2 154) hx hb hlt hown (by decide +kernel) (by decide +kernel) xk_101 xi_101 (hE.2.2.1 (154, "no bulletin of this day tells of such a region") (by decide +kernel)) xa_105 xg_105 hU9.1 hU9.2 hS (hl.1.trans hml.symm) dX4_bulletin_12 dX4_bulletin_15 dX4_bulletin_16 dX4_bulletin_18 dX4_bulletin_21 (fun x9 hx9 => (htb x9 hx9).elim) (Nat.le_of_ble_eq_true rfl) (Nat.le_of_ble_eq_true rfl) (by first | exact Nat.le_of_ble_eq_true rfl | (show _ ≤ 1; omega)) (by first | exact Nat.le_of_ble_eq_true rfl | (show _ ≤ 6; omega)) hlocks (fun t hal h1 h2 => ⟨1, ⟨tells_bad hz c_9, by decide⟩, rfl, hS.Ft h1 h2⟩) hS.2.2 (by omega) (by omega)
set_option maxHeartbeats 4000000 in
set_option maxRecDepth 100000 in
theorem kX4_see (l : Launch) (hlt : l.stackTraces = false) (E : ev_T) (ad : Nat → Nat) (S : Nat → Nat → Int32) (zs : Nat → Nat) (rn : Nat) (dy : Nat) (bn : Nat) (cn : Nat) (tn : Nat) (xr : Int32) (xs : Int32) (xz : Int32) (sz : Nat) (hrn : rn ≤ 6) (hdy : dy ≤ 60) (hcn : cn ≤ 200) : vx_Met l yX4_see wsX4_see ({ frames := 7, cells := 4, slots := 24, locals := 103 } : Room) (va_Pc [.ref (ad 0), .int xr, .int xs, .int xz] (pr_Y E (dC E ad S zs rn dy bn cn tn) sz)) (va_Qi (fun (r : Int32) (_ : Unit) => 0 = tSee xr xs xz rn cn ∧ r = (upd (S 23) (dy * 6 + (Int32.toNatClampNeg xr)) (S 23 (dy * 6 + (Int32.toNatClampNeg xr)) + nI ((Int32.toNatClampNeg xz) * (Int32.toNatClampNeg xz)))) (dy * 6 + (Int32.toNatClampNeg xr))) (fun _ t => va_P E.1 vwCl (dC E ad (va_up (va_up (va_up (va_up S 20 (upd (S 20) cn (nI dy))) 21 (upd (S 21) cn (nI (Int32.toNatClampNeg xr)))) 22 (upd (S 22) cn (nI (Int32.toNatClampNeg xs)))) 23 (upd (S 23) (dy * 6 + (Int32.toNatClampNeg xr)) (S 23 (dy * 6 + (Int32.toNatClampNeg xr)) + nI ((Int32.toNatClampNeg xz) * (Int32.toNatClampNeg xz))))) zs rn dy bn (cn + 1) tn) t.heap) (va_A (dC E ad S zs rn dy bn cn tn) sz)) (vx_X (fun (k : Nat) => k = tSee xr xs xz rn cn ∧ ¬ k = 0) (fun Ex k t => Ex = exn ((exm 3 2 1) k) ∧ va_P E.1 vwCl (dC E ad S zs rn dy bn cn tn) t.heap) (va_A (dC E ad S zs rn dy bn cn tn) sz)) 4 24 (va_A (dC E ad S zs rn dy bn cn tn) sz) := by
  refine vx_ofW (cc := cX4_see) (maxL := 4) (ret := (some .int)) (by decide) rfl ?_
  intro p e s m args below meth c s₁ B hml htb hv
  obtain ⟨rfl, hsz, hP, hD0, hE, hU9⟩ := hv
  have hx := B.exec
  have hb := B.bytes
  have hr := B.returns
  have hts := atoms_spec (ws := wsX4_see) B.pre
  have hown : s.vm.findClass RX4 = some m.cls := findClass_of_methodNamed B.named
  have hlocks := B.notSynchronized
  subst hsz
  have hD : va_D (va_A (dC E ad S zs rn dy bn cn tn) s.heap.size) (dC E ad S zs rn dy bn cn tn) := hD0.self
  have hA : ∀ q : Nat, s.heap.size ≤ q → (va_A (dC E ad S zs rn dy bn cn tn) s.heap.size) q := fun q h => Or.inr h
  refine mz_start (fun H locs hH hL => ?_)
  have hS : va_S (va_A (dC E ad S zs rn dy bn cn tn) s.heap.size) s.heap H locs := by rw [hH, hL]; exact va_S.rf
  have xk_92 := hts (.classLink RX4 92 "java/lang/IllegalArgumentException") (by decide +kernel)
  have xi_92 := hts (.initialized "java/lang/IllegalArgumentException") (by decide +kernel)
  have xa_96 : ∀ w ∈ vx_atS RX4 96 "java/lang/IllegalArgumentException" ["java/lang/RuntimeException", "java/lang/Exception"], w.before _ s = true := ev_at hE (fun w h => hts w ((by decide +kernel : ∀ w ∈ (vx_atS RX4 96 "java/lang/IllegalArgumentException" ["java/lang/RuntimeException", "java/lang/Exception"]).filter goodWord, w ∈ wsX4_see) w h)) (by decide +kernel)
  have xg_96 : ∀ w ∈ Cond.classLink RX4 92 "java/lang/IllegalArgumentException" :: Cond.initialized "java/lang/IllegalArgumentException" :: vx_atS RX4 96 "java/lang/IllegalArgumentException" ["java/lang/RuntimeException", "java/lang/Exception"], vx_ot w = true := by decide +kernel
  have f_30 := hts (.fieldLink RX4 30 "AvalancheDesk" "sightings" "LAvalancheDesk$Avalanches;") (by decide +kernel)
  have inX4 : ∀ w ∈ wsX40, w ∈ wsX4_see := by decide +kernel
  have f_67 := hts (.fieldLink RX4 67 "AvalancheDesk" "today" "I") (by decide +kernel)
  have xk_45 := hts (.classLink RX4 45 "java/lang/IllegalStateException") (by decide +kernel)
  have xi_45 := hts (.initialized "java/lang/IllegalStateException") (by decide +kernel)
  have xa_49 : ∀ w ∈ vx_atS RX4 49 "java/lang/IllegalStateException" ["java/lang/RuntimeException", "java/lang/Exception"], w.before _ s = true := ev_at hE (fun w h => hts w ((by decide +kernel : ∀ w ∈ (vx_atS RX4 49 "java/lang/IllegalStateException" ["java/lang/RuntimeException", "java/lang/Exception"]).filter goodWord, w ∈ wsX4_see) w h)) (by decide +kernel)
  have xg_49 : ∀ w ∈ Cond.classLink RX4 45 "java/lang/IllegalStateException" :: Cond.initialized "java/lang/IllegalStateException" :: vx_atS RX4 49 "java/lang/IllegalStateException" ["java/lang/RuntimeException", "java/lang/Exception"], vx_ot w = true := by decide +kernel
  have hl := lv_entry ([.ref (ad 0), .int xr, .int xs, .int xz]) (n := 4) (Nat.le_of_ble_eq_true rfl)
  rw [lg_entry_eq]
  generalize (lg_sl ([.ref (ad 0), .int xr, .int xs, .int xz]) ++ List.replicate (4 - (lg_sl ([.ref (ad 0), .int xr, .int xs, .int xz])).length) Slot.unset).toArray = ls at hl ⊢
  have hl : lv_has ls 4 [(0, .ref (ad 0)), (1, .int xr), (2, .int xs), (3, .int xz)] := hl
  have hP : va_P E.1 vwCl (dC E ad S zs rn dy bn cn tn) H := by rw [hH]; exact hP
  refine lv_aload_n hx hb dX4_see_0 rfl (lv_at hl 0 rfl) ?_
  refine lv_iload_n hx hb dX4_see_1 rfl (lv_at hl 1 rfl) ?_
  refine vx_callv (vx_runV (As := [.int xr]) (rest := []) ⟨hx, hb, hml, hown, hts⟩ (kX4_checkRegion l hlt E (ad 0) (ad 1) (ad 14) (ad 16) (ad 19) (ad 24) rn dy xr (by first | omega | assumption | (intro k h; have := hz k h; omega))) (cwV 1 hts gX4_see_X4_checkRegion rfl rfl rfl (by decide +kernel) ⟨Nat.le_of_ble_eq_true rfl, Nat.le_of_ble_eq_true rfl⟩) ⟨fb_X, va_recv hE.1 hP (ci := 4) (q0 := 0) rfl rfl, fun U hU hW => ⟨rfl, (by rw [hU]; exact hP.sub (ws' := [((ad 0), .inr (4, [.ref (ad 1), .ref (ad 14), .ref (ad 16), .ref (ad 19), .ref (ad 24), .int (nI rn), .int (nI dy)]))]) [0] rfl), hE.warm hW, hU9.to hS (fun _ h => h.elim) hU hW⟩⟩ rfl rfl hl.1 rfl (lv_room (Nat.le_of_ble_eq_true rfl)) dX4_see_2 ⟨by first | exact Nat.le_of_ble_eq_true rfl | (show _ ≤ 4; omega), by first | exact Nat.le_of_ble_eq_true rfl | (show _ ≤ 24; omega)⟩) hS (fun q _ h => h.elim) (fun q h => h.elim) (fun q _ h => h.elim)
    (fun Ex ce q9 u9 t H1 locs ht hvm hw hB hz1 hk1 hS hce hcv hcl => ?_) (fun u t H1 locs ht hvm hw hB hz1 hk1 hS => ?_)
  · have hP := hP.ro hk1
    obtain ⟨rfl, x_2⟩ := hw
    exact vx_out (fun x9 hx9 => (htb x9 hx9).elim) hlocks hce hcv hcl (fun t9 ht9 hal9 => ⟨1, ⟨by first | (simp only [tSee, secF, eq_self, if_true, i10f, if_false, if_pos x_2]; done) | (try unfold tSee; try unfold secF; simp only [eq_self, if_true, i10f, if_false, if_pos x_2]; done) | (try unfold tSee; try unfold secF; rfl) | rfl, by decide⟩, ⟨hB, by rw [ht9]; exact hP⟩, hS.F ht9⟩) hS.2.2 (by first | (show _ ≤ 4; omega)) (by first | (show _ ≤ 24; omega))
  · skip
    have hP := hP.ro hk1
    generalize H1 = H at hP hS ⊢
    have c_2 := hw
    have q_2 := hw
    obtain ⟨jr, hjr, rfl⟩ := inF_some q_2 (by omega)
    refine lv_iload_n hx hb dX4_see_5 rfl (lv_at hl 2 rfl) ?_
    refine vx_callv (vx_runS (As := [.int xs]) (rest := []) ⟨hx, hb, hml, hown, hts⟩ (kX4_checkSector l hlt E xs) (va_cwS 1 hts gX4_see_X4_checkSector rfl rfl rfl (by decide +kernel) ⟨Nat.le_of_ble_eq_true rfl, Nat.le_of_ble_eq_true rfl⟩) ⟨fb_X, fun U hU hW => ⟨rfl, (by rw [hU]; exact hP.sub (ws' := []) [] rfl), hE.warm hW, hU9.to hS (fun _ h => h.elim) hU hW⟩⟩ rfl rfl hl.1 rfl (lv_room (Nat.le_of_ble_eq_true rfl)) dX4_see_6 ⟨by first | exact Nat.le_of_ble_eq_true rfl | (show _ ≤ 4; omega), by first | exact Nat.le_of_ble_eq_true rfl | (show _ ≤ 24; omega)⟩) hS (fun q _ h => h.elim) (fun q h => h.elim) (fun q _ h => h.elim)
      (fun Ex ce q9 u9 t H1 locs ht hvm hw hB hz1 hk1 hS hce hcv hcl => ?_) (fun u t H1 locs ht hvm hw hB hz1 hk1 hS => ?_)
    · have hP := hP.ro hk1
      obtain ⟨rfl, x_6⟩ := hw
      exact vx_out (fun x9 hx9 => (htb x9 hx9).elim) hlocks hce hcv hcl (fun t9 ht9 hal9 => ⟨1, ⟨by first | (simp only [tSee, secF, if_neg c_2, nI_clamp (show jr < 2 ^ 31 by omega), eq_self, if_true, i10f, if_false, if_pos x_6]; done) | (try unfold tSee; try unfold secF; simp only [if_neg c_2, nI_clamp (show jr < 2 ^ 31 by omega), eq_self, if_true, i10f, if_false, if_pos x_6]; done) | (try unfold tSee; try unfold secF; rfl) | rfl, by decide⟩, ⟨hB, by rw [ht9]; exact hP⟩, hS.F ht9⟩) hS.2.2 (by first | (show _ ≤ 4; omega)) (by first | (show _ ≤ 24; omega))
    · skip
      have hP := hP.ro hk1
      generalize H1 = H at hP hS ⊢
      have c_6 := hw
      have q_6 : ¬ inF xs 12 = 0 := by rw [← isIn_n 12 (h := 11) (by decide) (by decide)]; exact hw
      obtain ⟨js, hjs, rfl⟩ := inF_some q_6 (by omega)
      refine lv_iload_n hx hb dX4_see_9 rfl (lv_at hl 3 rfl) ?_
      refine lv_iconst (v := 1) hx hb dX4_see_10 (by decide) ?_
      refine mz_lt (tgt := 19) hx hb dX4_see_11 (by decide) (fun c_11 => ?_) (fun c_11 => ?_)
      · have q_19 : isInF xz 1 5 = 0 := by unfold isInF; first | rw [if_pos c_11] | rw [if_neg c_11, if_pos c_16]
        exact vx_throwS (own := RX4) (cls := "java/lang/IllegalArgumentException") (text := "the size is not 1 to 5") (names := ["java/lang/RuntimeException", "java/lang/Exception"]) (ik := 92) (is := 165) (ic := 96) (sa := E.2.2 165) hx hb hlt hown (by decide +kernel) (by decide +kernel) xk_92 xi_92 (hE.2.2.1 (165, "the size is not 1 to 5") (by decide +kernel)) xa_96 xg_96 hU9.1 hU9.2 hS (hl.1.trans hml.symm) dX4_see_19 dX4_see_22 dX4_see_23 dX4_see_25 dX4_see_28 (fun x9 hx9 => (htb x9 hx9).elim) (Nat.le_of_ble_eq_true rfl) (Nat.le_of_ble_eq_true rfl) (by first | exact Nat.le_of_ble_eq_true rfl | (show _ ≤ 4; omega)) (by first | exact Nat.le_of_ble_eq_true rfl | (show _ ≤ 24; omega)) hlocks (fun t hal h1 h2 => ⟨2, ⟨by first | (simp only [tSee, secF, if_neg c_2, nI_clamp (show jr < 2 ^ 31 by omega), if_neg c_6, nI_clamp (show js < 2 ^ 31 by omega), if_pos c_11, if_pos q_19, eq_self, if_true, i10f, if_false]; done) | (try unfold tSee; try unfold secF; simp only [if_neg c_2, nI_clamp (show jr < 2 ^ 31 by omega), if_neg c_6, nI_clamp (show js < 2 ^ 31 by omega), if_pos c_11, if_pos q_19, eq_self, if_true, i10f, if_false]; done) | (try unfold tSee; try unfold secF; rfl) | rfl, by decide⟩, ⟨rfl, hP.later h2⟩, hS.Ft h1 h2⟩) hS.2.2 (by omega) (by omega)
      · refine lv_iload_n hx hb dX4_see_14 rfl (lv_at hl 3 rfl) ?_
        refine lv_iconst (v := 5) hx hb dX4_see_15 (by decide) ?_
        refine mz_le (tgt := 29) hx hb dX4_see_16 (by decide) (fun c_16 => ?_) (fun c_16 => ?_)
        · have q_29 : ¬ isInF xz 1 5 = 0 := by unfold isInF; rw [if_neg c_11, if_neg c_16]; decide
          obtain ⟨jz, hz1, hz5, rfl⟩ := isIn_15 q_29
          refine lv_aload_n hx hb dX4_see_29 rfl (lv_at hl 0 rfl) ?_
          refine va_get (D := E.1) (ci := 4) (v := .ref (ad 19)) (C := RX4) (T := TX4) (N := 7) hx hb hts inX4 hown hE.1 hP 0 rfl rfl 3 (by decide) f_30 (fun _ h9 => h9) rfl dX4_see_30 ?_
          refine va_calli (va_runV (As := []) (rest := []) ⟨hx, hb, hml, hown, hts⟩ (kX0_isFull l E (ad 19) (ad 20) (ad 21) (ad 22) (ad 23) (S 20) (S 21) (S 22) (S 23) cn (by first | omega | assumption | (intro k h; have := hz k h; omega))) (cwV 0 hts gX4_see_X0_isFull rfl rfl rfl (by decide +kernel) ⟨Nat.le_of_ble_eq_true rfl, Nat.le_of_ble_eq_true rfl⟩) ⟨fb_R, va_recv hE.1 hP (ci := 0) (q0 := 19) rfl rfl, fun U hU hW => ⟨rfl, (by rw [hU]; exact hP.sub (ws' := [((ad 19), .inr (0, [.ref (ad 20), .ref (ad 21), .ref (ad 22), .ref (ad 23), .int (nI cn)])), ((ad 20), .inl (E.2.1 0, 200, .inl (S 20))), ((ad 21), .inl (E.2.1 0, 200, .inl (S 21))), ((ad 22), .inl (E.2.1 0, 200, .inl (S 22))), ((ad 23), .inl (E.2.1 0, 366, .inl (S 23)))]) [19, 20, 21, 22, 23] rfl), hE.warm hW⟩⟩ rfl rfl hl.1 rfl (lv_room (Nat.le_of_ble_eq_true rfl)) dX4_see_33 ⟨by first | exact Nat.le_of_ble_eq_true rfl | (show _ ≤ 4; omega), by first | exact Nat.le_of_ble_eq_true rfl | (show _ ≤ 24; omega)⟩) hS (fun q _ h => h.elim) (fun q h => h.elim) (fun r33_2 u t H1 locs ht hvm hw hB hz1 hk1 hS => ?_)
          have hP := hP.ro hk1
          generalize H1 = H at hP hS ⊢
          subst hw
          refine lv_if_eq (tgt := 49) hx hb dX4_see_36 (by decide) (fun c_36 => ?_) (fun c_36 => ?_)
          · have f_49_ := fullF_no c_36
            have q_49 : ¬ cn = 200 := by omega
            refine lv_aload_n hx hb dX4_see_49 rfl (lv_at hl 0 rfl) ?_
            refine va_get (D := E.1) (ci := 4) (v := .ref (ad 19)) (C := RX4) (T := TX4) (N := 7) hx hb hts inX4 hown hE.1 hP 0 rfl rfl 3 (by decide) f_30 (fun _ h9 => h9) rfl dX4_see_50 ?_
            refine lv_aload_n hx hb dX4_see_53 rfl (lv_at hl 0 rfl) ?_
            refine va_get (D := E.1) (ci := 4) (v := .int (nI dy)) (C := RX4) (T := TX4) (N := 7) hx hb hts inX4 hown hE.1 hP 0 rfl rfl 6 (by decide) f_67 (fun _ h9 => h9) rfl dX4_see_54 ?_
            refine lv_iload_n hx hb dX4_see_57 rfl (lv_at hl 1 rfl) ?_
            refine lv_iload_n hx hb dX4_see_58 rfl (lv_at hl 2 rfl) ?_
            refine lv_iload_n hx hb dX4_see_59 rfl (lv_at hl 3 rfl) ?_
            have hFc := va_free (wc := [((ad 19), .inr (0, [.ref (ad 20), .ref (ad 21), .ref (ad 22), .ref (ad 23), .int (nI cn)])), ((ad 20), .inl (E.2.1 0, 200, .inl (S 20))), ((ad 21), .inl (E.2.1 0, 200, .inl (S 21))), ((ad 22), .inl (E.2.1 0, 200, .inl (S 22))), ((ad 23), .inl (E.2.1 0, 366, .inl (S 23)))]) hD hS hA [19, 20, 21, 22, 23] rfl
            refine va_callv (va_runV (As := [.int (nI dy), .int (nI jr), .int (nI js), .int (nI jz)]) (rest := []) ⟨hx, hb, hml, hown, hts⟩ (kX0_note l E (ad 19) (ad 20) (ad 21) (ad 22) (ad 23) (S 20) (S 21) (S 22) (S 23) cn dy jr js jz H.size (by first | omega | assumption | (intro k h; have := hz k h; omega)) (by first | omega | assumption | (intro k h; have := hz k h; omega)) (by first | omega | assumption | (intro k h; have := hz k h; omega))) (cwV 4 hts gX4_see_X0_note rfl rfl rfl (by decide +kernel) ⟨Nat.le_of_ble_eq_true rfl, Nat.le_of_ble_eq_true rfl⟩) ⟨fb_W, va_recv hE.1 hP (ci := 0) (q0 := 19) rfl rfl, fun U hU hW => ⟨rfl, by rw [hU], (by rw [hU]; exact hP.sub (ws' := [((ad 19), .inr (0, [.ref (ad 20), .ref (ad 21), .ref (ad 22), .ref (ad 23), .int (nI cn)])), ((ad 20), .inl (E.2.1 0, 200, .inl (S 20))), ((ad 21), .inl (E.2.1 0, 200, .inl (S 21))), ((ad 22), .inl (E.2.1 0, 200, .inl (S 22))), ((ad 23), .inl (E.2.1 0, 366, .inl (S 23)))]) [19, 20, 21, 22, 23] rfl), (hD.sub (ws' := [((ad 19), .inr (0, [.ref (ad 20), .ref (ad 21), .ref (ad 22), .ref (ad 23), .int (nI cn)])), ((ad 20), .inl (E.2.1 0, 200, .inl (S 20))), ((ad 21), .inl (E.2.1 0, 200, .inl (S 21))), ((ad 22), .inl (E.2.1 0, 200, .inl (S 22))), ((ad 23), .inl (E.2.1 0, 366, .inl (S 23)))]) [19, 20, 21, 22, 23] (by decide) rfl).weaken (fun _ _ _ _ => trivial), hE.warm hW⟩⟩ rfl rfl hl.1 rfl (lv_room (Nat.le_of_ble_eq_true rfl)) dX4_see_60 ⟨by first | exact Nat.le_of_ble_eq_true rfl | (show _ ≤ 4; omega), by first | exact Nat.le_of_ble_eq_true rfl | (show _ ≤ 24; omega)⟩) hS (fun q _ h => hFc q h) hFc (fun u t H1 locs ht hvm hw hB hz1 hk1 hS => ?_)
            rw [ht] at hB
            obtain ⟨hP, hD⟩ := va_put2 (ws' := (dC E ad (va_up (va_up (va_up (va_up S 20 (upd (S 20) cn (nI dy))) 21 (upd (S 21) cn (nI jr))) 22 (upd (S 22) cn (nI js))) 23 (upd (S 23) (dy * 6 + jr) ((S 23) (dy * 6 + jr) + nI (jz * jz)))) zs rn dy bn (cn + 1) tn)) hP hD [19, 20, 21, 22, 23] rfl hk1 hB rfl (by simp only [List.map_cons, List.map_nil]) rfl
            generalize H1 = H at hP hS ⊢
            refine lv_aload_n hx hb dX4_see_63 rfl (lv_at hl 0 rfl) ?_
            refine va_get (D := E.1) (ci := 4) (v := .ref (ad 19)) (C := RX4) (T := TX4) (N := 7) hx hb hts inX4 hown hE.1 hP 0 rfl rfl 3 (by decide) f_30 (fun _ h9 => h9) rfl dX4_see_64 ?_
            refine lv_aload_n hx hb dX4_see_67 rfl (lv_at hl 0 rfl) ?_
            refine va_get (D := E.1) (ci := 4) (v := .int (nI dy)) (C := RX4) (T := TX4) (N := 7) hx hb hts inX4 hown hE.1 hP 0 rfl rfl 6 (by decide) f_67 (fun _ h9 => h9) rfl dX4_see_68 ?_
            refine lv_iload_n hx hb dX4_see_71 rfl (lv_at hl 1 rfl) ?_
            refine va_calli (va_runV (As := [.int (nI dy), .int (nI jr)]) (rest := []) ⟨hx, hb, hml, hown, hts⟩ (kX0_activityOn l E (ad 19) (ad 20) (ad 21) (ad 22) (ad 23) (upd (S 20) cn (nI dy)) (upd (S 21) cn (nI jr)) (upd (S 22) cn (nI js)) (upd (S 23) (dy * 6 + jr) ((S 23) (dy * 6 + jr) + nI (jz * jz))) (cn + 1) dy jr (by first | omega | assumption | (intro k h; have := hz k h; omega)) (by first | omega | assumption | (intro k h; have := hz k h; omega))) (cwV 2 hts gX4_see_X0_activityOn rfl rfl rfl (by decide +kernel) ⟨Nat.le_of_ble_eq_true rfl, Nat.le_of_ble_eq_true rfl⟩) ⟨fb_R, va_recv hE.1 hP (ci := 0) (q0 := 19) rfl rfl, fun U hU hW => ⟨rfl, (by rw [hU]; exact hP.sub (ws' := [((ad 19), .inr (0, [.ref (ad 20), .ref (ad 21), .ref (ad 22), .ref (ad 23), .int (nI (cn + 1))])), ((ad 20), .inl (E.2.1 0, 200, .inl (upd (S 20) cn (nI dy)))), ((ad 21), .inl (E.2.1 0, 200, .inl (upd (S 21) cn (nI jr)))), ((ad 22), .inl (E.2.1 0, 200, .inl (upd (S 22) cn (nI js)))), ((ad 23), .inl (E.2.1 0, 366, .inl (upd (S 23) (dy * 6 + jr) ((S 23) (dy * 6 + jr) + nI (jz * jz)))))]) [19, 20, 21, 22, 23] rfl), hE.warm hW⟩⟩ rfl rfl hl.1 rfl (lv_room (Nat.le_of_ble_eq_true rfl)) dX4_see_72 ⟨by first | exact Nat.le_of_ble_eq_true rfl | (show _ ≤ 4; omega), by first | exact Nat.le_of_ble_eq_true rfl | (show _ ≤ 24; omega)⟩) hS (fun q _ h => h.elim) (fun q h => h.elim) (fun r72_4 u t H1 locs ht hvm hw hB hz1 hk1 hS => ?_)
            have hP := hP.ro hk1
            generalize H1 = H at hP hS ⊢
            subst hw
            refine W.widen (k := 4) (n := 24) (by omega) (by omega) ?_
            refine vx_ret ?_
            have e9_1 : va_up (va_up (va_up (va_up S 20 (upd (S 20) cn (nI dy))) 21 (upd (S 21) cn (nI (Int32.toNatClampNeg (nI jr))))) 22 (upd (S 22) cn (nI (Int32.toNatClampNeg (nI js))))) 23 (upd (S 23) (dy * 6 + (Int32.toNatClampNeg (nI jr))) (S 23 (dy * 6 + (Int32.toNatClampNeg (nI jr))) + nI ((Int32.toNatClampNeg (nI jz)) * (Int32.toNatClampNeg (nI jz))))) = va_up (va_up (va_up (va_up S 20 (upd (S 20) cn (nI dy))) 21 (upd (S 21) cn (nI jr))) 22 (upd (S 22) cn (nI js))) 23 (upd (S 23) (dy * 6 + jr) ((S 23) (dy * 6 + jr) + nI (jz * jz))) := by first | (simp only [if_neg c_2, nI_clamp (show jr < 2 ^ 31 by omega), if_neg c_6, nI_clamp (show js < 2 ^ 31 by omega), if_neg c_11, if_neg c_16, if_neg q_29, nI_clamp (show jz < 2 ^ 31 by omega), if_pos c_36, if_neg q_49, eq_self, if_true, i10f, if_false]; done) | rfl
            have hB9 : va_P E.1 vwCl (dC E ad (va_up (va_up (va_up (va_up S 20 (upd (S 20) cn (nI dy))) 21 (upd (S 21) cn (nI (Int32.toNatClampNeg (nI jr))))) 22 (upd (S 22) cn (nI (Int32.toNatClampNeg (nI js))))) 23 (upd (S 23) (dy * 6 + (Int32.toNatClampNeg (nI jr))) (S 23 (dy * 6 + (Int32.toNatClampNeg (nI jr))) + nI ((Int32.toNatClampNeg (nI jz)) * (Int32.toNatClampNeg (nI jz)))))) zs rn dy bn (cn + 1) tn) H := by rw [e9_1]; exact hP
            exact W.iret (v := (upd (S 23) (dy * 6 + jr) ((S 23) (dy * 6 + jr) + nI (jz * jz))) (dy * 6 + jr)) hx hb hr (fun t ht hW => ⟨⟨_, (), rfl, ⟨(by first | (simp only [tSee, secF, if_neg c_2, nI_clamp (show jr < 2 ^ 31 by omega), if_neg c_6, nI_clamp (show js < 2 ^ 31 by omega), if_neg c_11, if_neg c_16, if_neg q_29, nI_clamp (show jz < 2 ^ 31 by omega), if_pos c_36, if_neg q_49, eq_self, if_true, i10f, if_false]; done) | (try unfold tSee; try unfold secF; simp only [if_neg c_2, nI_clamp (show jr < 2 ^ 31 by omega), if_neg c_6, nI_clamp (show js < 2 ^ 31 by omega), if_neg c_11, if_neg c_16, if_neg q_29, nI_clamp (show jz < 2 ^ 31 by omega), if_pos c_36, if_neg q_49, eq_self, if_true, i10f, if_false]; done) | (try unfold tSee; try unfold secF; rfl) | rfl), (by first | (simp only [if_neg c_2, nI_clamp (show jr < 2 ^ 31 by omega), if_neg c_6, nI_clamp (show js < 2 ^ 31 by omega), if_neg c_11, if_neg c_16, if_neg q_29, nI_clamp (show jz < 2 ^ 31 by omega), if_pos c_36, if_neg q_49, eq_self, if_true, i10f, if_false]; done) | rfl)⟩, (by subst ht; exact hB9)⟩, hS.F ht⟩) hS.2.2 dX4_see_75
          · have f_39_ := fullF_yes c_36
            have q_39 : cn = 200 := by omega
            exact vx_throwS (own := RX4) (cls := "java/lang/IllegalStateException") (text := "200 avalanches were noted") (names := ["java/lang/RuntimeException", "java/lang/Exception"]) (ik := 45) (is := 171) (ic := 49) (sa := E.2.2 171) hx hb hlt hown (by decide +kernel) (by decide +kernel) xk_45 xi_45 (hE.2.2.1 (171, "200 avalanches were noted") (by decide +kernel)) xa_49 xg_49 hU9.1 hU9.2 hS (hl.1.trans hml.symm) dX4_see_39 dX4_see_42 dX4_see_43 dX4_see_45 dX4_see_48 (fun x9 hx9 => (htb x9 hx9).elim) (Nat.le_of_ble_eq_true rfl) (Nat.le_of_ble_eq_true rfl) (by first | exact Nat.le_of_ble_eq_true rfl | (show _ ≤ 4; omega)) (by first | exact Nat.le_of_ble_eq_true rfl | (show _ ≤ 24; omega)) hlocks (fun t hal h1 h2 => ⟨3, ⟨by first | (simp only [tSee, secF, if_neg c_2, nI_clamp (show jr < 2 ^ 31 by omega), if_neg c_6, nI_clamp (show js < 2 ^ 31 by omega), if_neg c_11, if_neg c_16, if_neg q_29, nI_clamp (show jz < 2 ^ 31 by omega), if_neg c_36, if_pos q_39, eq_self, if_true, i10f, if_false]; done) | (try unfold tSee; try unfold secF; simp only [if_neg c_2, nI_clamp (show jr < 2 ^ 31 by omega), if_neg c_6, nI_clamp (show js < 2 ^ 31 by omega), if_neg c_11, if_neg c_16, if_neg q_29, nI_clamp (show jz < 2 ^ 31 by omega), if_neg c_36, if_pos q_39, eq_self, if_true, i10f, if_false]; done) | (try unfold tSee; try unfold secF; rfl) | rfl, by decide⟩, ⟨rfl, hP.later h2⟩, hS.Ft h1 h2⟩) hS.2.2 (by omega) (by omega)
        · have q_19 : isInF xz 1 5 = 0 := by unfold isInF; first | rw [if_pos c_11] | rw [if_neg c_11, if_pos c_16]
          exact vx_throwS (own := RX4) (cls := "java/lang/IllegalArgumentException") (text := "the size is not 1 to 5") (names := ["java/lang/RuntimeException", "java/lang/Exception"]) (ik := 92) (is := 165) (ic := 96) (sa := E.2.2 165) hx hb hlt hown (by decide +kernel) (by decide +kernel) xk_92 xi_92 (hE.2.2.1 (165, "the size is not 1 to 5") (by decide +kernel)) xa_96 xg_96 hU9.1 hU9.2 hS (hl.1.trans hml.symm) dX4_see_19 dX4_see_22 dX4_see_23 dX4_see_25 dX4_see_28 (fun x9 hx9 => (htb x9 hx9).elim) (Nat.le_of_ble_eq_true rfl) (Nat.le_of_ble_eq_true rfl) (by first | exact Nat.le_of_ble_eq_true rfl | (show _ ≤ 4; omega)) (by first | exact Nat.le_of_ble_eq_true rfl | (show _ ≤ 24; omega)) hlocks (fun t hal h1 h2 => ⟨2, ⟨by first | (simp only [tSee, secF, if_neg c_2, nI_clamp (show jr < 2 ^ 31 by omega), if_neg c_6, nI_clamp (show js < 2 ^ 31 by omega), if_neg c_11, if_pos c_16, if_pos q_19, eq_self, if_true, i10f, if_false]; done) | (try unfold tSee; try unfold secF; simp only [if_neg c_2, nI_clamp (show jr < 2 ^ 31 by omega), if_neg c_6, nI_clamp (show js < 2 ^ 31 by omega), if_neg c_11, if_pos c_16, if_pos q_19, eq_self, if_true, i10f, if_false]; done) | (try unfold tSee; try unfold secF; rfl) | rfl, by decide⟩, ⟨rfl, hP.later h2⟩, hS.Ft h1 h2⟩) hS.2.2 (by omega) (by omega)
set_option maxHeartbeats 4000000 in
set_option maxRecDepth 100000 in
theorem kX4_verdict (l : Launch) (E : ev_T) (ad : Nat → Nat) (S : Nat → Nat → Int32) (zs : Nat → Nat) (rn : Nat) (dy : Nat) (bn : Nat) (cn : Nat) (tn : Nat) (vd : Nat) (vr : Nat) (ln : Nat) (h1 : vd ≤ 60) (h2 : vr < 6) (hl1 : 1 ≤ ln) (hl5 : ln ≤ 5) (hle : S 18 ((vd * 6 + vr) * 3 + 0) = nI ln) : Met l yX4_verdict wsX4_verdict ({ frames := 2, cells := 0, slots := 0, locals := 44 } : Room) (va_Pc [.ref (ad 0), .int (nI vd), .int (nI vr)] (pr_R E (dC E ad S zs rn dy bn cn tn))) (va_Qi (fun (r : Int32) (_ : Unit) => r = howF ln (S 23 (vd * 6 + vr))) (fun _ _ => True) (fun _ : Nat => False)) 0 0 (fun _ : Nat => False) := by
  refine Met.ofW (cc := cX4_verdict) (maxL := 5) (ret := (some .int)) (by decide) rfl ?_
  intro p e s m args below meth c s₁ B hml hv
  obtain ⟨rfl, hP, hE⟩ := hv
  have hx := B.exec
  have hb := B.bytes
  have hr := B.returns
  have hts := atoms_spec (ws := wsX4_verdict) B.pre
  have hown : s.vm.findClass RX4 = some m.cls := findClass_of_methodNamed B.named
  have hlocks := B.notSynchronized
  refine mz_start (fun H locs hH hL => ?_)
  have hS : va_S (fun _ : Nat => False) s.heap H locs := by rw [hH, hL]; exact va_S.rf
  have f_23 := hts (.fieldLink RX4 23 "AvalancheDesk" "archive" "LAvalancheDesk$Bulletins;") (by decide +kernel)
  have inX4 : ∀ w ∈ wsX40, w ∈ wsX4_verdict := by decide +kernel
  have f_30 := hts (.fieldLink RX4 30 "AvalancheDesk" "sightings" "LAvalancheDesk$Avalanches;") (by decide +kernel)
  have hl := lv_entry ([.ref (ad 0), .int (nI vd), .int (nI vr)]) (n := 5) (Nat.le_of_ble_eq_true rfl)
  rw [lg_entry_eq]
  generalize (lg_sl ([.ref (ad 0), .int (nI vd), .int (nI vr)]) ++ List.replicate (5 - (lg_sl ([.ref (ad 0), .int (nI vd), .int (nI vr)])).length) Slot.unset).toArray = ls at hl ⊢
  have hl : lv_has ls 5 [(0, .ref (ad 0)), (1, .int (nI vd)), (2, .int (nI vr))] := hl
  have hP : va_P E.1 vwCl (dC E ad S zs rn dy bn cn tn) H := by rw [hH]; exact hP
  refine lv_aload_n hx hb dX4_verdict_0 rfl (lv_at hl 0 rfl) ?_
  refine va_get (D := E.1) (ci := 4) (v := .ref (ad 16)) (C := RX4) (T := TX4) (N := 7) hx hb hts inX4 hown hE.1 hP 0 rfl rfl 2 (by decide) f_23 (fun _ h9 => h9) rfl dX4_verdict_1 ?_
  refine lv_iload_n hx hb dX4_verdict_4 rfl (lv_at hl 1 rfl) ?_
  refine lv_iload_n hx hb dX4_verdict_5 rfl (lv_at hl 2 rfl) ?_
  refine lv_iconst (v := 0) hx hb dX4_verdict_6 (by decide) ?_
  refine va_calli (va_runV (As := [.int (nI vd), .int (nI vr), .int 0]) (rest := []) ⟨hx, hb, hml, hown, hts⟩ (kX1_read l E (ad 16) (ad 17) (ad 18) zs (S 18) bn vd vr 0 (by first | omega | assumption | (intro k h; have := hz k h; omega)) (by first | omega | assumption | (intro k h; have := hz k h; omega)) (by first | omega | assumption | (intro k h; have := hz k h; omega))) (cwV 3 hts gX4_verdict_X1_read rfl rfl rfl (by decide +kernel) ⟨Nat.le_of_ble_eq_true rfl, Nat.le_of_ble_eq_true rfl⟩) ⟨fb_R, va_recv hE.1 hP (ci := 1) (q0 := 16) rfl rfl, fun U hU hW => ⟨rfl, (by rw [hU]; exact hP.sub (ws' := [((ad 16), .inr (1, [.ref (ad 17), .ref (ad 18), .int (nI bn)])), ((ad 17), .inl (E.2.1 0, 61, .inl (nF zs))), ((ad 18), .inl (E.2.1 0, 1098, .inl (S 18)))]) [16, 17, 18] rfl), hE.warm hW⟩⟩ rfl rfl hl.1 rfl (lv_room (Nat.le_of_ble_eq_true rfl)) dX4_verdict_7 ⟨by first | exact Nat.le_of_ble_eq_true rfl | (show _ ≤ 0; omega), by first | exact Nat.le_of_ble_eq_true rfl | (show _ ≤ 0; omega)⟩) hS (fun q _ h => h.elim) (fun q h => h.elim) (fun r7_0 u t H1 locs ht hvm hw hB hz1 hk1 hS => ?_)
  have hP := hP.ro hk1
  generalize H1 = H at hP hS ⊢
  subst hw
  refine mz_fold (y := nI (ln)) (hle) ?_
  refine lv_istore_n (lv' := [(3, .int (nI ln)), (0, .ref (ad 0)), (1, .int (nI vd)), (2, .int (nI vr))]) hx hb dX4_verdict_10 rfl hl (by decide) rfl (fun ls hl => ?_)
  refine lv_aload_n hx hb dX4_verdict_11 rfl (lv_at hl 1 rfl) ?_
  refine va_get (D := E.1) (ci := 4) (v := .ref (ad 19)) (C := RX4) (T := TX4) (N := 7) hx hb hts inX4 hown hE.1 hP 0 rfl rfl 3 (by decide) f_30 (fun _ h9 => h9) rfl dX4_verdict_12 ?_
  refine lv_iload_n hx hb dX4_verdict_15 rfl (lv_at hl 2 rfl) ?_
  refine lv_iload_n hx hb dX4_verdict_16 rfl (lv_at hl 3 rfl) ?_
  refine va_calli (va_runV (As := [.int (nI vd), .int (nI vr)]) (rest := []) ⟨hx, hb, hml, hown, hts⟩ (kX0_activityOn l E (ad 19) (ad 20) (ad 21) (ad 22) (ad 23) (S 20) (S 21) (S 22) (S 23) cn vd vr (by first | omega | assumption | (intro k h; have := hz k h; omega)) (by first | omega | assumption | (intro k h; have := hz k h; omega))) (cwV 2 hts gX4_verdict_X0_activityOn rfl rfl rfl (by decide +kernel) ⟨Nat.le_of_ble_eq_true rfl, Nat.le_of_ble_eq_true rfl⟩) ⟨fb_R, va_recv hE.1 hP (ci := 0) (q0 := 19) rfl rfl, fun U hU hW => ⟨rfl, (by rw [hU]; exact hP.sub (ws' := [((ad 19), .inr (0, [.ref (ad 20), .ref (ad 21), .ref (ad 22), .ref (ad 23), .int (nI cn)])), ((ad 20), .inl (E.2.1 0, 200, .inl (S 20))), ((ad 21), .inl (E.2.1 0, 200, .inl (S 21))), ((ad 22), .inl (E.2.1 0, 200, .inl (S 22))), ((ad 23), .inl (E.2.1 0, 366, .inl (S 23)))]) [19, 20, 21, 22, 23] rfl), hE.warm hW⟩⟩ rfl rfl hl.1 rfl (lv_room (Nat.le_of_ble_eq_true rfl)) dX4_verdict_17 ⟨by first | exact Nat.le_of_ble_eq_true rfl | (show _ ≤ 0; omega), by first | exact Nat.le_of_ble_eq_true rfl | (show _ ≤ 0; omega)⟩) hS (fun q _ h => h.elim) (fun q h => h.elim) (fun r17_1 u t H1 locs ht hvm hw hB hz1 hk1 hS => ?_)
  have hP := hP.ro hk1
  generalize H1 = H at hP hS ⊢
  subst hw
  refine lv_istore (lv' := [(4, .int ((S 23) (vd * 6 + vr))), (3, .int (nI ln)), (0, .ref (ad 0)), (1, .int (nI vd)), (2, .int (nI vr))]) hx hb dX4_verdict_20 hl (by decide) rfl (fun ls hl => ?_)
  refine lv_iload hx hb dX4_verdict_22 (lv_at hl 0 rfl) ?_
  refine lv_iload_n hx hb dX4_verdict_24 rfl (lv_at hl 1 rfl) ?_
  refine va_calli (va_runS (As := [.int (nI ln)]) (rest := [.int ((S 23) (vd * 6 + vr))]) ⟨hx, hb, hml, hown, hts⟩ (kX4_leastActivity l E ln (by first | omega | assumption | (intro k h; have := hz k h; omega)) (by first | omega | assumption | (intro k h; have := hz k h; omega))) (va_cwS 1 hts gX4_verdict_X4_leastActivity rfl rfl rfl (by decide +kernel) ⟨Nat.le_of_ble_eq_true rfl, Nat.le_of_ble_eq_true rfl⟩) ⟨fb_0, fun U hU hW => ⟨rfl, trivial⟩⟩ rfl rfl hl.1 rfl (lv_room (Nat.le_of_ble_eq_true rfl)) dX4_verdict_25 ⟨by first | exact Nat.le_of_ble_eq_true rfl | (show _ ≤ 0; omega), by first | exact Nat.le_of_ble_eq_true rfl | (show _ ≤ 0; omega)⟩) hS (fun q _ h => h.elim) (fun q h => h.elim) (fun r25_2 u t H1 locs ht hvm hw hB hz1 hk1 hS => ?_)
  have hP := hP.ro hk1
  generalize H1 = H at hP hS ⊢
  subst hw
  refine mz_ge (tgt := 33) hx hb dX4_verdict_28 (by decide) (fun c_28 => ?_) (fun c_28 => ?_)
  · refine lv_iload hx hb dX4_verdict_33 (lv_at hl 0 rfl) ?_
    refine lv_iload_n hx hb dX4_verdict_35 rfl (lv_at hl 1 rfl) ?_
    refine va_calli (va_runS (As := [.int (nI ln)]) (rest := [.int ((S 23) (vd * 6 + vr))]) ⟨hx, hb, hml, hown, hts⟩ (kX4_greatestActivity l E ln (by first | omega | assumption | (intro k h; have := hz k h; omega)) (by first | omega | assumption | (intro k h; have := hz k h; omega))) (va_cwS 1 hts gX4_verdict_X4_greatestActivity rfl rfl rfl (by decide +kernel) ⟨Nat.le_of_ble_eq_true rfl, Nat.le_of_ble_eq_true rfl⟩) ⟨fb_0, fun U hU hW => ⟨rfl, trivial⟩⟩ rfl rfl hl.1 rfl (lv_room (Nat.le_of_ble_eq_true rfl)) dX4_verdict_36 ⟨by first | exact Nat.le_of_ble_eq_true rfl | (show _ ≤ 0; omega), by first | exact Nat.le_of_ble_eq_true rfl | (show _ ≤ 0; omega)⟩) hS (fun q _ h => h.elim) (fun q h => h.elim) (fun r36_3 u t H1 locs ht hvm hw hB hz1 hk1 hS => ?_)
    have hP := hP.ro hk1
    generalize H1 = H at hP hS ⊢
    subst hw
    refine mz_le (tgt := 46) hx hb dX4_verdict_39 (by decide) (fun c_39 => ?_) (fun c_39 => ?_)
    · refine lv_iconst (v := 0) hx hb dX4_verdict_46 (by decide) ?_
      exact W.iret (v := 0) hx hb hr (fun t ht hW => ⟨⟨_, (), rfl, (by first | (simp only [howF, if_neg c_28, if_neg c_39]; done) | (try unfold howF; simp only [if_neg c_28, if_neg c_39]; done) | (try unfold howF; rfl) | rfl), trivial⟩, hS.F ht⟩) hS.2.2 dX4_verdict_47
    · refine lv_iconst (v := 1) hx hb dX4_verdict_42 (by decide) ?_
      refine lv_goto (tgt := 47) hx hb dX4_verdict_43 (by decide) ?_
      exact W.iret (v := 1) hx hb hr (fun t ht hW => ⟨⟨_, (), rfl, (by first | (simp only [howF, if_neg c_28, if_pos c_39]; done) | (try unfold howF; simp only [if_neg c_28, if_pos c_39]; done) | (try unfold howF; rfl) | rfl), trivial⟩, hS.F ht⟩) hS.2.2 dX4_verdict_47
  · refine lv_iconst (v := (-1)) hx hb dX4_verdict_31 (by decide) ?_
    exact W.iret (v := (-1)) hx hb hr (fun t ht hW => ⟨⟨_, (), rfl, (by first | (simp only [howF, if_pos c_28]; done) | (try unfold howF; simp only [if_pos c_28]; done) | (try unfold howF; rfl) | rfl), trivial⟩, hS.F ht⟩) hS.2.2 dX4_verdict_32
set_option maxHeartbeats 4000000 in
set_option maxRecDepth 100000 in
theorem kX4_borneOut (l : Launch) (hlt : l.stackTraces = false) (E : ev_T) (ad : Nat → Nat) (S : Nat → Nat → Int32) (zs : Nat → Nat) (rn : Nat) (dy : Nat) (bn : Nat) (cn : Nat) (tn : Nat) (xh : Int32) (hrn : rn ≤ 6) (hdy : dy ≤ 60) (hz : ∀ k, k ≤ 60 → zs k ≤ 6) (hlv : ∀ d r, d ≤ 60 → r < zs d → 1 ≤ lvS S d r ∧ lvS S d r ≤ 5 ∧ S 18 ((d * 6 + r) * 3 + 0) = nI (lvS S d r)) : vx_Met l yX4_borneOut wsX4_borneOut ({ frames := 6, cells := 1, slots := 6, locals := 82 } : Room) (va_Pc [.ref (ad 0), .int xh] (pr_X E (dC E ad S zs rn dy bn cn tn))) (va_Qi (fun (r : Int32) (_ : Unit) => 0 = tBor xh ∧ r = bcD S zs rn xh (dy + 1)) (fun _ _ => True) (fun _ : Nat => False)) (vx_X (fun (k : Nat) => k = tBor xh ∧ ¬ k = 0) (fun Ex k _ => Ex = exn ((exm 2 0 0) k)) (fun _ : Nat => False)) 1 6 (fun _ : Nat => False) := by
  refine vx_ofW (cc := cX4_borneOut) (maxL := 5) (ret := (some .int)) (by decide) rfl ?_
  intro p e s m args below meth c s₁ B hml htb hv
  obtain ⟨rfl, hP, hE, hU9⟩ := hv
  have hx := B.exec
  have hb := B.bytes
  have hr := B.returns
  have hts := atoms_spec (ws := wsX4_borneOut) B.pre
  have hown : s.vm.findClass RX4 = some m.cls := findClass_of_methodNamed B.named
  have hlocks := B.notSynchronized
  refine mz_start (fun H locs hH hL => ?_)
  have hS : va_S (fun _ : Nat => False) s.heap H locs := by rw [hH, hL]; exact va_S.rf
  have xk_92 := hts (.classLink RX4 92 "java/lang/IllegalArgumentException") (by decide +kernel)
  have xi_92 := hts (.initialized "java/lang/IllegalArgumentException") (by decide +kernel)
  have xa_96 : ∀ w ∈ vx_atS RX4 96 "java/lang/IllegalArgumentException" ["java/lang/RuntimeException", "java/lang/Exception"], w.before _ s = true := ev_at hE (fun w h => hts w ((by decide +kernel : ∀ w ∈ (vx_atS RX4 96 "java/lang/IllegalArgumentException" ["java/lang/RuntimeException", "java/lang/Exception"]).filter goodWord, w ∈ wsX4_borneOut) w h)) (by decide +kernel)
  have xg_96 : ∀ w ∈ Cond.classLink RX4 92 "java/lang/IllegalArgumentException" :: Cond.initialized "java/lang/IllegalArgumentException" :: vx_atS RX4 96 "java/lang/IllegalArgumentException" ["java/lang/RuntimeException", "java/lang/Exception"], vx_ot w = true := by decide +kernel
  have f_67 := hts (.fieldLink RX4 67 "AvalancheDesk" "today" "I") (by decide +kernel)
  have inX4 : ∀ w ∈ wsX40, w ∈ wsX4_borneOut := by decide +kernel
  have f_41 := hts (.fieldLink RX4 41 "AvalancheDesk" "regionCount" "I") (by decide +kernel)
  have f_23 := hts (.fieldLink RX4 23 "AvalancheDesk" "archive" "LAvalancheDesk$Bulletins;") (by decide +kernel)
  have hl := lv_entry ([.ref (ad 0), .int xh]) (n := 5) (Nat.le_of_ble_eq_true rfl)
  rw [lg_entry_eq]
  generalize (lg_sl ([.ref (ad 0), .int xh]) ++ List.replicate (5 - (lg_sl ([.ref (ad 0), .int xh])).length) Slot.unset).toArray = ls at hl ⊢
  have hl : lv_has ls 5 [(0, .ref (ad 0)), (1, .int xh)] := hl
  have hP : va_P E.1 vwCl (dC E ad S zs rn dy bn cn tn) H := by rw [hH]; exact hP
  refine lv_iload_n hx hb dX4_borneOut_0 rfl (lv_at hl 1 rfl) ?_
  refine lv_iconst (v := (-1)) hx hb dX4_borneOut_1 (by decide) ?_
  refine mz_lt (tgt := 10) hx hb dX4_borneOut_2 (by decide) (fun c_2 => ?_) (fun c_2 => ?_)
  · have q_10 : isInF xh (-1) 1 = 0 := by unfold isInF; first | rw [if_pos c_2] | rw [if_neg c_2, if_pos c_7]
    exact vx_throwS (own := RX4) (cls := "java/lang/IllegalArgumentException") (text := "how is not -1 to 1") (names := ["java/lang/RuntimeException", "java/lang/Exception"]) (ik := 92) (is := 181) (ic := 96) (sa := E.2.2 181) hx hb hlt hown (by decide +kernel) (by decide +kernel) xk_92 xi_92 (hE.2.2.1 (181, "how is not -1 to 1") (by decide +kernel)) xa_96 xg_96 hU9.1 hU9.2 hS (hl.1.trans hml.symm) dX4_borneOut_10 dX4_borneOut_13 dX4_borneOut_14 dX4_borneOut_16 dX4_borneOut_19 (fun x9 hx9 => (htb x9 hx9).elim) (Nat.le_of_ble_eq_true rfl) (Nat.le_of_ble_eq_true rfl) (by first | exact Nat.le_of_ble_eq_true rfl | (show _ ≤ 1; omega)) (by first | exact Nat.le_of_ble_eq_true rfl | (show _ ≤ 6; omega)) hlocks (fun t hal h1 h2 => ⟨1, ⟨by first | (simp only [tBor, if_pos c_2, if_pos q_10, eq_self, if_true, i10f, if_false]; done) | (try unfold tBor; simp only [if_pos c_2, if_pos q_10, eq_self, if_true, i10f, if_false]; done) | (try unfold tBor; rfl) | rfl, by decide⟩, rfl, hS.Ft h1 h2⟩) hS.2.2 (by omega) (by omega)
  · refine lv_iload_n hx hb dX4_borneOut_5 rfl (lv_at hl 1 rfl) ?_
    refine lv_iconst (v := 1) hx hb dX4_borneOut_6 (by decide) ?_
    refine mz_le (tgt := 20) hx hb dX4_borneOut_7 (by decide) (fun c_7 => ?_) (fun c_7 => ?_)
    · have q_20 : ¬ isInF xh (-1) 1 = 0 := by unfold isInF; rw [if_neg c_2, if_neg c_7]; decide
      refine lv_iconst (v := 0) hx hb dX4_borneOut_20 (by decide) ?_
      refine lv_istore_n (lv' := [(2, .int 0), (0, .ref (ad 0)), (1, .int xh)]) hx hb dX4_borneOut_21 rfl hl (by decide) rfl (fun ls hl => ?_)
      refine lv_iconst (v := 0) hx hb dX4_borneOut_22 (by decide) ?_
      refine lv_istore_n (lv' := [(3, .int 0), (2, .int 0), (0, .ref (ad 0)), (1, .int xh)]) hx hb dX4_borneOut_23 rfl hl (by decide) rfl (fun ls hl => ?_)
      have KL24 : ∀ (n24 id9 : Nat), id9 ≤ dy + 1 → dy + 1 < n24 + id9 → ∀ (H : Heap) (locs : List Loc) (ls : Array Slot), va_P E.1 vwCl (dC E ad S zs rn dy bn cn tn) H → va_S (fun _ : Nat => False) s.heap H locs → lv_has ls 5 [(3, .int (nI id9)), (2, .int (bcD S zs rn xh id9)), (0, .ref (ad 0)), (1, .int xh)] → W p l e (headSpec wsX4_borneOut ({ frames := 6, cells := 1, slots := 6, locals := 82 } : Room)).room s m [.ref (ad 0), .int xh].toArray below meth c H locs 0 0 (vx_MQ below (va_Qi (fun (r : Int32) (_ : Unit) => 0 = tBor xh ∧ r = bcD S zs rn xh (dy + 1)) (fun _ _ => True) (fun _ : Nat => False)) (vx_X (fun (k : Nat) => k = tBor xh ∧ ¬ k = 0) (fun Ex k _ => Ex = exn ((exm 2 0 0) k)) (fun _ : Nat => False)) [.ref (ad 0), .int xh].toArray s 1 6 (fun _ : Nat => False)) (F0 m 24 ls []) := by
        intro n24
        induction n24 with
        | zero => intro id9 h1 h2; exact absurd h2 (by omega)
        | succ n24 ih24 =>
          intro id9 hi24 hn24 H locs ls hP hS hl
          refine lv_iload_n hx hb dX4_borneOut_24 rfl (lv_at hl 0 rfl) ?_
          refine lv_aload_n hx hb dX4_borneOut_25 rfl (lv_at hl 2 rfl) ?_
          refine va_get (D := E.1) (ci := 4) (v := .int (nI dy)) (C := RX4) (T := TX4) (N := 7) hx hb hts inX4 hown hE.1 hP 0 rfl rfl 6 (by decide) f_67 (fun _ h9 => h9) rfl dX4_borneOut_26 ?_
          refine mz_gtN hx hb id9 dy (tgt := 83) dX4_borneOut_29 (by decide) (by omega) (by omega) (fun c_29 => ?_) (fun c_29 => ?_)
          · have hq99 : id9 = dy + 1 := by omega
            subst id9
            refine lv_iload_n hx hb dX4_borneOut_83 rfl (lv_at hl 1 rfl) ?_
            refine W.widen (k := 1) (n := 6) (by omega) (by omega) ?_
            refine vx_ret ?_
            exact W.iret (v := bcD S zs rn xh (dy + 1)) hx hb hr (fun t ht hW => ⟨⟨_, (), rfl, ⟨(by first | (simp only [tBor, if_neg c_2, if_neg c_7, if_neg q_20, eq_self, if_true, i10f, if_false]; done) | (try unfold tBor; simp only [if_neg c_2, if_neg c_7, if_neg q_20, eq_self, if_true, i10f, if_false]; done) | (try unfold tBor; rfl) | rfl), (by first | (simp only [if_neg c_2, if_neg c_7, if_neg q_20, eq_self, if_true, i10f, if_false]; done) | rfl)⟩, trivial⟩, hS.F ht⟩) hS.2.2 dX4_borneOut_84
          · refine lv_iconst (v := 0) hx hb dX4_borneOut_32 (by decide) ?_
            refine lv_istore (lv' := [(4, .int 0), (3, .int (nI id9)), (2, .int (bcD S zs rn xh id9)), (0, .ref (ad 0)), (1, .int xh)]) hx hb dX4_borneOut_33 hl (by decide) rfl (fun ls hl => ?_)
            have KL35 : ∀ (n35 ir : Nat), ir ≤ rn → rn < n35 + ir → ∀ (H : Heap) (locs : List Loc) (ls : Array Slot), va_P E.1 vwCl (dC E ad S zs rn dy bn cn tn) H → va_S (fun _ : Nat => False) s.heap H locs → lv_has ls 5 [(4, .int (nI ir)), (3, .int (nI id9)), (2, .int (bcR S zs xh id9 (bcD S zs rn xh id9) ir)), (0, .ref (ad 0)), (1, .int xh)] → W p l e (headSpec wsX4_borneOut ({ frames := 6, cells := 1, slots := 6, locals := 82 } : Room)).room s m [.ref (ad 0), .int xh].toArray below meth c H locs 0 0 (vx_MQ below (va_Qi (fun (r : Int32) (_ : Unit) => 0 = tBor xh ∧ r = bcD S zs rn xh (dy + 1)) (fun _ _ => True) (fun _ : Nat => False)) (vx_X (fun (k : Nat) => k = tBor xh ∧ ¬ k = 0) (fun Ex k _ => Ex = exn ((exm 2 0 0) k)) (fun _ : Nat => False)) [.ref (ad 0), .int xh].toArray s 1 6 (fun _ : Nat => False)) (F0 m 35 ls []) := by
              intro n35
              induction n35 with
              | zero => intro ir h1 h2; exact absurd h2 (by omega)
              | succ n35 ih35 =>
                intro ir hi35 hn35 H locs ls hP hS hl
                refine lv_iload hx hb dX4_borneOut_35 (lv_at hl 0 rfl) ?_
                refine lv_aload_n hx hb dX4_borneOut_37 rfl (lv_at hl 3 rfl) ?_
                refine va_get (D := E.1) (ci := 4) (v := .int (nI rn)) (C := RX4) (T := TX4) (N := 7) hx hb hts inX4 hown hE.1 hP 0 rfl rfl 5 (by decide) f_41 (fun _ h9 => h9) rfl dX4_borneOut_38 ?_
                refine mz_geN hx hb ir rn (tgt := 77) dX4_borneOut_41 (by decide) (by omega) (by omega) (fun c_41 => ?_) (fun c_41 => ?_)
                · have hq99 : ir = rn := by omega
                  subst ir
                  refine mz_iinc (k := 1) (lv' := [(3, .int (nI (id9 + 1))), (4, .int (nI rn)), (2, .int (bcR S zs xh id9 (bcD S zs rn xh id9) rn)), (0, .ref (ad 0)), (1, .int xh)]) hx hb id9 1 dX4_borneOut_77 hl rfl (by decide) rfl (fun ls hl => ?_)
                  refine lv_goto (tgt := 24) hx hb dX4_borneOut_80 (by decide) ?_
                  exact ih24 (id9 + 1) (by omega) (by omega) _ _ _ hP hS (lv_sub hl [0, 2, 3, 4] rfl)
                · have KJ71 : ∀ (xx : Int32), xx = (bcR S zs xh id9 (bcD S zs rn xh id9) (ir + 1)) → ∀ (H : Heap) (locs : List Loc) (ls : Array Slot), va_P E.1 vwCl (dC E ad S zs rn dy bn cn tn) H → va_S (fun _ : Nat => False) s.heap H locs → lv_has ls 5 [(2, .int xx), (4, .int (nI ir)), (3, .int (nI id9)), (0, .ref (ad 0)), (1, .int xh)] → W p l e (headSpec wsX4_borneOut ({ frames := 6, cells := 1, slots := 6, locals := 82 } : Room)).room s m [.ref (ad 0), .int xh].toArray below meth c H locs 0 0 (vx_MQ below (va_Qi (fun (r : Int32) (_ : Unit) => 0 = tBor xh ∧ r = bcD S zs rn xh (dy + 1)) (fun _ _ => True) (fun _ : Nat => False)) (vx_X (fun (k : Nat) => k = tBor xh ∧ ¬ k = 0) (fun Ex k _ => Ex = exn ((exm 2 0 0) k)) (fun _ : Nat => False)) [.ref (ad 0), .int xh].toArray s 1 6 (fun _ : Nat => False)) (F0 m 71 ls []) := by
                    intro xx exx H locs ls hP hS hl
                    subst exx
                    refine mz_iinc (k := 1) (lv' := [(4, .int (nI (ir + 1))), (2, .int (bcR S zs xh id9 (bcD S zs rn xh id9) (ir + 1))), (3, .int (nI id9)), (0, .ref (ad 0)), (1, .int xh)]) hx hb ir 1 dX4_borneOut_71 hl rfl (by decide) rfl (fun ls hl => ?_)
                    refine lv_goto (tgt := 35) hx hb dX4_borneOut_74 (by decide) ?_
                    exact ih35 (ir + 1) (by omega) (by omega) _ _ _ hP hS (lv_sub hl [0, 2, 1, 3, 4] rfl)
                  refine lv_aload_n hx hb dX4_borneOut_44 rfl (lv_at hl 3 rfl) ?_
                  refine va_get (D := E.1) (ci := 4) (v := .ref (ad 16)) (C := RX4) (T := TX4) (N := 7) hx hb hts inX4 hown hE.1 hP 0 rfl rfl 2 (by decide) f_23 (fun _ h9 => h9) rfl dX4_borneOut_45 ?_
                  refine lv_iload_n hx hb dX4_borneOut_48 rfl (lv_at hl 1 rfl) ?_
                  refine lv_iload hx hb dX4_borneOut_49 (lv_at hl 0 rfl) ?_
                  refine va_calli (va_runV (As := [.int (nI id9), .int (nI ir)]) (rest := []) ⟨hx, hb, hml, hown, hts⟩ (kX1_tells l E (ad 16) (ad 17) (ad 18) zs (S 18) bn (nI id9) (nI ir) (by first | omega | assumption | (intro k h; have := hz k h; omega))) (cwV 2 hts gX4_borneOut_X1_tells rfl rfl rfl (by decide +kernel) ⟨Nat.le_of_ble_eq_true rfl, Nat.le_of_ble_eq_true rfl⟩) ⟨fb_R, va_recv hE.1 hP (ci := 1) (q0 := 16) rfl rfl, fun U hU hW => ⟨rfl, (by rw [hU]; exact hP.sub (ws' := [((ad 16), .inr (1, [.ref (ad 17), .ref (ad 18), .int (nI bn)])), ((ad 17), .inl (E.2.1 0, 61, .inl (nF zs))), ((ad 18), .inl (E.2.1 0, 1098, .inl (S 18)))]) [16, 17, 18] rfl), hE.warm hW⟩⟩ rfl rfl hl.1 rfl (lv_room (Nat.le_of_ble_eq_true rfl)) dX4_borneOut_51 ⟨by first | exact Nat.le_of_ble_eq_true rfl | (show _ ≤ 1; omega), by first | exact Nat.le_of_ble_eq_true rfl | (show _ ≤ 6; omega)⟩) hS (fun q _ h => h.elim) (fun q h => h.elim) (fun r51_0 u t H1 locs ht hvm hw hB hz1 hk1 hS => ?_)
                  have hP := hP.ro hk1
                  generalize H1 = H at hP hS ⊢
                  subst hw
                  have hz9 := hz id9 (by omega)
                  refine mz_fold (y := tellsN zs id9 ir) (tells_nat (by omega) (by omega) (by omega)) ?_
                  refine lv_if_eq (tgt := 71) hx hb dX4_borneOut_54 (by decide) (fun c_54 => ?_) (fun c_54 => ?_)
                  · exact KJ71 (bcR S zs xh id9 (bcD S zs rn xh id9) ir) (by first | (simp only [bcR, if_neg c_2, if_neg c_7, if_neg q_20, if_neg (Nat.not_lt.mpr c_29), if_pos c_41, if_pos c_54, eq_self, if_true, i10f, if_false]; done) | (try unfold bcR; simp only [if_neg c_2, if_neg c_7, if_neg q_20, if_neg (Nat.not_lt.mpr c_29), if_pos c_41, if_pos c_54, eq_self, if_true, i10f, if_false]; done) | (try unfold bcR; rfl) | rfl) _ _ _ hP hS (lv_sub hl [2, 0, 1, 3, 4] rfl)
                  · obtain ⟨hl1, hl5, hl9⟩ := hlv id9 ir (by omega) (tellsN_yes c_54)
                    refine lv_aload_n hx hb dX4_borneOut_57 rfl (lv_at hl 3 rfl) ?_
                    refine lv_iload_n hx hb dX4_borneOut_58 rfl (lv_at hl 1 rfl) ?_
                    refine lv_iload hx hb dX4_borneOut_59 (lv_at hl 0 rfl) ?_
                    refine va_calli (va_runV (As := [.int (nI id9), .int (nI ir)]) (rest := []) ⟨hx, hb, hml, hown, hts⟩ (kX4_verdict l E ad S zs rn dy bn cn tn id9 ir (lvS S id9 ir) (by first | omega | assumption | (intro k h; have := hz k h; omega)) (by first | omega | assumption | (intro k h; have := hz k h; omega)) (by first | omega | assumption | (intro k h; have := hz k h; omega)) (by first | omega | assumption | (intro k h; have := hz k h; omega)) (by first | omega | assumption | (intro k h; have := hz k h; omega))) (cwV 2 hts gX4_borneOut_X4_verdict rfl rfl rfl (by decide +kernel) ⟨Nat.le_of_ble_eq_true rfl, Nat.le_of_ble_eq_true rfl⟩) ⟨fb_R, va_recv hE.1 hP (ci := 4) (q0 := 0) rfl rfl, fun U hU hW => ⟨rfl, (by rw [hU]; exact hP), hE.warm hW⟩⟩ rfl rfl hl.1 rfl (lv_room (Nat.le_of_ble_eq_true rfl)) dX4_borneOut_61 ⟨by first | exact Nat.le_of_ble_eq_true rfl | (show _ ≤ 1; omega), by first | exact Nat.le_of_ble_eq_true rfl | (show _ ≤ 6; omega)⟩) hS (fun q _ h => h.elim) (fun q h => h.elim) (fun r61_1 u t H1 locs ht hvm hw hB hz1 hk1 hS => ?_)
                    have hP := hP.ro hk1
                    generalize H1 = H at hP hS ⊢
                    subst hw
                    refine lv_iload_n hx hb dX4_borneOut_64 rfl (lv_at hl 4 rfl) ?_
                    refine lv_icmp_ne (tgt := 71) hx hb dX4_borneOut_65 (by decide) (fun c_65 => ?_) (fun c_65 => ?_)
                    · exact KJ71 (bcR S zs xh id9 (bcD S zs rn xh id9) ir) (by first | (simp only [bcR, if_neg c_2, if_neg c_7, if_neg q_20, if_neg (Nat.not_lt.mpr c_29), if_pos c_41, if_neg c_54, if_neg c_65, eq_self, if_true, i10f, if_false]; done) | (try unfold bcR; simp only [if_neg c_2, if_neg c_7, if_neg q_20, if_neg (Nat.not_lt.mpr c_29), if_pos c_41, if_neg c_54, if_neg c_65, eq_self, if_true, i10f, if_false]; done) | (try unfold bcR; rfl) | rfl) _ _ _ hP hS (lv_sub hl [2, 0, 1, 3, 4] rfl)
                    · refine lv_iinc (k := 2) (v := (bcR S zs xh id9 (bcD S zs rn xh id9) ir) + 1) (lv' := [(2, .int ((bcR S zs xh id9 (bcD S zs rn xh id9) ir) + 1)), (4, .int (nI ir)), (3, .int (nI id9)), (0, .ref (ad 0)), (1, .int xh)]) hx hb dX4_borneOut_68 hl rfl rfl (by decide) rfl (fun ls hl => ?_)
                      exact KJ71 ((bcR S zs xh id9 (bcD S zs rn xh id9) ir) + 1) (by first | (simp only [bcR, if_neg c_2, if_neg c_7, if_neg q_20, if_neg (Nat.not_lt.mpr c_29), if_pos c_41, if_neg c_54, if_pos c_65, eq_self, if_true, i10f, if_false]; done) | (try unfold bcR; simp only [if_neg c_2, if_neg c_7, if_neg q_20, if_neg (Nat.not_lt.mpr c_29), if_pos c_41, if_neg c_54, if_pos c_65, eq_self, if_true, i10f, if_false]; done) | (try unfold bcR; rfl) | rfl) _ _ _ hP hS (lv_sub hl [0, 1, 2, 3, 4] rfl)
            exact KL35 (rn + 1 - 0) 0 (by omega) (by omega) _ _ _ hP hS (lv_sub hl [0, 1, 2, 3, 4] rfl)
      exact KL24 ((dy + 1) + 1 - 0) 0 (by omega) (by omega) _ _ _ hP hS (lv_sub hl [0, 1, 2, 3] rfl)
    · have q_10 : isInF xh (-1) 1 = 0 := by unfold isInF; first | rw [if_pos c_2] | rw [if_neg c_2, if_pos c_7]
      exact vx_throwS (own := RX4) (cls := "java/lang/IllegalArgumentException") (text := "how is not -1 to 1") (names := ["java/lang/RuntimeException", "java/lang/Exception"]) (ik := 92) (is := 181) (ic := 96) (sa := E.2.2 181) hx hb hlt hown (by decide +kernel) (by decide +kernel) xk_92 xi_92 (hE.2.2.1 (181, "how is not -1 to 1") (by decide +kernel)) xa_96 xg_96 hU9.1 hU9.2 hS (hl.1.trans hml.symm) dX4_borneOut_10 dX4_borneOut_13 dX4_borneOut_14 dX4_borneOut_16 dX4_borneOut_19 (fun x9 hx9 => (htb x9 hx9).elim) (Nat.le_of_ble_eq_true rfl) (Nat.le_of_ble_eq_true rfl) (by first | exact Nat.le_of_ble_eq_true rfl | (show _ ≤ 1; omega)) (by first | exact Nat.le_of_ble_eq_true rfl | (show _ ≤ 6; omega)) hlocks (fun t hal h1 h2 => ⟨1, ⟨by first | (simp only [tBor, if_neg c_2, if_pos c_7, if_pos q_10, eq_self, if_true, i10f, if_false]; done) | (try unfold tBor; simp only [if_neg c_2, if_pos c_7, if_pos q_10, eq_self, if_true, i10f, if_false]; done) | (try unfold tBor; rfl) | rfl, by decide⟩, rfl, hS.Ft h1 h2⟩) hS.2.2 (by omega) (by omega)
