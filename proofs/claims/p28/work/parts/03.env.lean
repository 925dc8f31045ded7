/-! the environment that every contract takes: classes and array classes, links of nest mates, strings; the two statics of Throwable -/
abbrev ev_T : Type := va_G × (Nat → ClassId) × (Nat → Nat)
def ev_ty (cs : Nat → ClassId) : List (ClassId × FieldType) := [(cs 0, .int), (cs 1, .object RX2)]
theorem ev_same {D : va_G} {cl : List vw_C} {cs : Nat → ClassId} {U : State} {cA : ClassId} {ty : FieldType} (k : Nat) (h : va_K D cl (ev_ty cs ++ [(cA, ty)]) U) (hk : (ev_ty cs ++ [(cA, ty)])[k]? = some (cs k, ty)) (hty : ∀ C, ty ≠ .object C) : cs k = cA := by
  have h1 := (h.2 k _ hk).2
  have h2 := (h.2 2 _ rfl).2
  cases ty with
  | object C => exact absurd rfl (hty C)
  | _ => exact Option.some.inj (h1.symm.trans h2)
theorem ev_same0 {D : va_G} {cl : List vw_C} {cs : Nat → ClassId} {U : State} {cA : ClassId} (h : va_K D cl (ev_ty cs ++ [(cA, .int)]) U) : cs 0 = cA := ev_same 0 h rfl (fun _ => by simp)
def ev_N : List Cond := [.fieldLinkNest RX4 60 RX2 "isWeatherTold" "Z" RX4, .fieldLinkNest RX4 186 RX0 "count" "I" RX4, .fieldLinkNest RX4 187 RX0 "days" "[I" RX4, .fieldLinkNest RX4 191 RX0 "places" "[I" RX4, .fieldLinkNest RX4 194 RX0 "sectors" "[I" RX4, .methodLinkNest RX4 15 yX2_init RX4, .methodLinkNest RX4 22 yX1_init RX4, .methodLinkNest RX4 29 yX0_init RX4, .methodLinkNest RX4 36 yX3_init RX4, .methodLinkNest RX2 94 yX4_bit RX4]
def ev_S : List (Nat × String) := [(47, "there are 6 regions"), (70, "it is the last day"), (103, "no such problem"), (133, "a bulletin was published on this day"), (135, "there are no regions"), (154, "no bulletin of this day tells of such a region"), (156, "a bulletin tells nothing like this"), (165, "the size is not 1 to 5"), (171, "200 avalanches were noted"), (181, "how is not -1 to 1"), (241, "no such region"), (243, "no such sector"), (245, "a sector has no such number"), (247, "the snow is not 0 to 150"), (249, "the wind is not 0 to 120"), (251, "from is not 0 to 3"), (253, "the temperature is not -30 to 15")]
def exI : String := "java/lang/IllegalStateException"
def exA : String := "java/lang/IllegalArgumentException"
def exO : String := "java/lang/IndexOutOfBoundsException"
def ev_X : List Cond := [.castable "java/lang/IllegalStateException" "java/lang/IllegalStateException", .castable "java/lang/IllegalArgumentException" "java/lang/IllegalArgumentException", .castable "java/lang/IndexOutOfBoundsException" "java/lang/IndexOutOfBoundsException", .declares (Bundle.initS "java/lang/RuntimeException"), .declares (Bundle.initS "java/lang/Exception"), .declares (Bundle.initS Bundle.tN)]
def ev_C : List (String × String) := []
def ev_nest (w : Cond) : Bool := match w with
  | .fieldLinkNest .. => true
  | .methodLinkNest .. => true
  | _ => false
def ev_U (E : ev_T) (U : State) : Prop := va_K E.1 vwCl (ev_ty E.2.1) U ∧ (∀ w ∈ ev_N, va_Nw w U) ∧ (∀ q ∈ ev_S, vk_R RX4 q.1 q.2 (E.2.2 q.1) U) ∧ (∀ w ∈ ev_X, va_Nw w U) ∧ ∀ q ∈ ev_C, va_Nc q.1 q.2 U
theorem ev_X_face : ∀ w ∈ ev_X, w.faceAtom = true ∧ w.onTables = true := by decide +kernel
theorem ev_warmX {w : Cond} (h : w.faceAtom = true ∧ w.onTables = true) {s U : State} (hW : s.WarmedH U.vm) (hZ : va_Nw w s) : va_Nw w U := va_tabs h.2 (rfl : (s.setVm U.vm).vm = U.vm) (Cond.faceAtom_setVm hW.alike w h.1 hZ)
theorem ev_N_nest : ∀ w ∈ ev_N, ev_nest w = true := by decide +kernel
theorem ev_warmN {w : Cond} (h : ev_nest w = true) {s U : State} (hW : s.WarmedH U.vm) (hZ : va_Nw w s) : va_Nw w U := by
  cases w <;> first | (simp [ev_nest] at h; done) | exact va_Nw.warmF hW hZ | exact va_Nw.warmM hW hZ
theorem ev_sameN {w : Cond} (h : ev_nest w = true) {s U : State} (hv : s.vm = U.vm) (hZ : va_Nw w s) : va_Nw w U := by
  cases w <;> first | (simp [ev_nest] at h; done) | exact va_Nw.same rfl hv hZ
theorem ev_U.warm {E : ev_T} {s U : State} (h : ev_U E s) (hW : s.WarmedH U.vm) : ev_U E U :=
  ⟨va_K.moved hW.alike h.1, fun w hw => ev_warmN (ev_N_nest w hw) hW (h.2.1 w hw), fun q hq => vk_R.warm hW (h.2.2.1 q hq), fun w hw => ev_warmX (ev_X_face w hw) hW (h.2.2.2.1 w hw), fun q hq => va_Nc.moved hW.alike (h.2.2.2.2 q hq)⟩
theorem ev_U.call {E : ev_T} {U : State} {g : JFrame} {mk : MethodId} {a : Array Value} (h : ev_U E U) : ev_U E (U.calling g mk a) :=
  ⟨va_K.moved (u := U) (U := U.calling g mk a) (Vm.Alike.refl U.vm) h.1, fun w hw => ev_sameN (s := U) (ev_N_nest w hw) rfl (h.2.1 w hw), fun q hq => vk_R.same (u := U) rfl (h.2.2.1 q hq), fun w hw => va_Nw.same (u := U) (ev_X_face w hw).2 rfl (h.2.2.2.1 w hw), fun q hq => va_Nc.moved (u := U) (U := U.calling g mk a) (Vm.Alike.refl U.vm) (h.2.2.2.2 q hq)⟩
def ex_U (A : Nat → Prop) (U : State) (H : Heap) : Prop := vx_Zq Bundle.tN "UNASSIGNED_STACK" Bundle.steD A U H ∧ vx_Zq Bundle.tN "SUPPRESSED_SENTINEL" Bundle.listD A U H
theorem ex_U.moved {A : Nat → Prop} {u U : State} {H : Heap} (hvm : u.vm.Alike U.vm) (h : ex_U A u H) : ex_U A U H := ⟨vx_Zq.moved hvm h.1, vx_Zq.moved hvm h.2⟩
theorem ex_U.kept {A : Nat → Prop} {U : State} {H H1 : Heap} (h : ex_U A U H) (hq : ∀ a : Nat, a < H.size → ¬ A a → H1[a]? = H[a]?) : ex_U A U H1 := ⟨h.1.kept hq, h.2.kept hq⟩
theorem ex_U.narrow {A B : Nat → Prop} {U : State} {H : Heap} (h : ex_U A U H) (hAB : ∀ q, B q → A q) : ex_U B U H := ⟨h.1.narrow hAB, h.2.narrow hAB⟩
/-- for a callee: at its start, for its part A' -/
theorem ex_U.to {A A' : Nat → Prop} {s U : State} {H : Heap} {locs : List Loc} (h : ex_U A s s.heap) (hS : va_S A s.heap H locs) (hAB : ∀ q, A' q → A q) (hU : U.heap = H) (hW : s.WarmedH U.vm) : ex_U A' U U.heap :=
  by rw [hU]; exact ((h.kept hS.2.1).narrow hAB).moved hW.alike
theorem va_S.Ft {A : Nat → Prop} {s t : State} {H : Heap} {locs : List Loc} (h : va_S A s.heap H locs) (h1 : H.size ≤ t.heap.size) (h2 : ∀ q : Nat, q < H.size → t.heap[q]? = H[q]?) : va_F A s t :=
  ⟨Nat.le_trans h.1 h1, fun q a b => (h2 q (Nat.lt_of_lt_of_le a h.1)).trans (h.2.1 q a b)⟩
theorem va_P.later {D : va_G} {cl : List vw_C} {ws : va_W} {H H1 : Heap} (h : va_P D cl ws H) (hk : ∀ q : Nat, q < H.size → H1[q]? = H[q]?) : va_P D cl ws H1 := h.kept fun k q hq => hk q.1 ((h k q hq).lt)
/-- the exceptions by numbers: 1 IllegalState, 2 IllegalArgument, 3 IndexOutOfBounds -/
def exn : Nat → String
  | 1 => "java/lang/IllegalStateException"
  | 2 => "java/lang/IllegalArgumentException"
  | _ => "java/lang/IndexOutOfBoundsException"
theorem ev_at {E : ev_T} {args : Array Value} {s : State} {L : List Cond} (hE : ev_U E s) (h1 : ∀ w ∈ L.filter goodWord, w.before args s = true) (h2 : ∀ w ∈ L.filter (fun w => !goodWord w), w ∈ ev_X) : ∀ w ∈ L, w.before args s = true :=
  vx_hat h1 h2 (fun w hw => va_Nw.use (ev_X_face w hw).2 (hE.2.2.2.1 w hw))
/-- starts of contracts: a world that is read; a world that is written; the same where it may throw -/
def pr_R (E : ev_T) (ws : va_W) : State → Prop := fun U => va_P E.1 vwCl ws U.heap ∧ ev_U E U
def pr_W (E : ev_T) (ws : va_W) (sz : Nat) : State → Prop := fun U => U.heap.size = sz ∧ va_P E.1 vwCl ws U.heap ∧ va_D (fun _ => True) ws ∧ ev_U E U
def pr_X (E : ev_T) (ws : va_W) : State → Prop := fun U => va_P E.1 vwCl ws U.heap ∧ ev_U E U ∧ ex_U (fun _ => False) U U.heap
def pr_Y (E : ev_T) (ws : va_W) (sz : Nat) : State → Prop := fun U => U.heap.size = sz ∧ va_P E.1 vwCl ws U.heap ∧ va_D (fun _ => True) ws ∧ ev_U E U ∧ ex_U (va_A ws sz) U U.heap
theorem fb_0 {av : List Value} : FrameBlind (va_Pc av (fun _ => True)) := fun a U g mk q => q
theorem fb_R {E : ev_T} {ws : va_W} {av : List Value} : FrameBlind (va_Pc av (pr_R E ws)) := fun a U g mk q => ⟨q.1, q.2.1, ev_U.call q.2.2⟩
theorem fb_W {E : ev_T} {ws : va_W} {sz : Nat} {av : List Value} : FrameBlind (va_Pc av (pr_W E ws sz)) := fun a U g mk q => ⟨q.1, q.2.1, q.2.2.1, q.2.2.2.1, ev_U.call q.2.2.2.2⟩
theorem fb_X {E : ev_T} {ws : va_W} {av : List Value} : FrameBlind (va_Pc av (pr_X E ws)) := fun a U g mk q => ⟨q.1, q.2.1, ev_U.call q.2.2.1, ex_U.moved (u := U) (U := U.calling g mk a) (Vm.Alike.refl U.vm) q.2.2.2⟩
theorem fb_Y {E : ev_T} {ws : va_W} {sz : Nat} {av : List Value} : FrameBlind (va_Pc av (pr_Y E ws sz)) := fun a U g mk q => ⟨q.1, q.2.1, q.2.2.1, q.2.2.2.1, ev_U.call q.2.2.2.2.1, ex_U.moved (u := U) (U := U.calling g mk a) (Vm.Alike.refl U.vm) q.2.2.2.2.2⟩
/-- what a method left: its good end (0), or how it said no -/
def mo {α : Type} (k : Nat) (a : α) (b : Nat → α) : α := match k with
  | 0 => a
  | n + 1 => b (n + 1)
/-- places of a world set, one behind the other -/
def va_sets (ws : va_W) : List (Nat × (Nat × va_E)) → va_W
  | [] => ws
  | q :: l => va_sets (ws.set q.1 q.2) l
theorem va_sets_in : ∀ (l : List (Nat × (Nat × va_E))) (ws : va_W) (k : Nat) (q : Nat × va_E), (va_sets ws l)[k]? = some q → (k ∉ l.map (fun x => x.1) ∧ ws[k]? = some q) ∨ ∃ x ∈ l, x.2 = q
  | [], _, k, q, h => Or.inl ⟨List.not_mem_nil, h⟩
  | x :: l, ws, k, q, h => by
    rcases va_sets_in l (ws.set x.1 x.2) k q h with ⟨h1, h2⟩ | ⟨y, h1, h2⟩
    · by_cases e : x.1 = k
      · refine Or.inr ⟨x, List.mem_cons_self, ?_⟩
        rw [← e] at h2
        by_cases hl : x.1 < ws.length
        · rw [List.getElem?_set_self hl] at h2; exact Option.some.inj h2
        · rw [List.getElem?_eq_none (by rw [List.length_set]; omega)] at h2; cases h2
      · rw [List.getElem?_set_ne e] at h2
        refine Or.inl ⟨?_, h2⟩
        rw [List.map_cons, List.mem_cons]
        rintro (z | z)
        · exact e z.symm
        · exact h1 z
    · exact Or.inr ⟨y, List.mem_cons_of_mem _ h1, h2⟩
theorem va_sets_at : ∀ (l : List (Nat × (Nat × va_E))) (ws : va_W), (∀ x ∈ l, ∃ e : va_E, ws[x.1]? = some (x.2.1, e)) → (va_sets ws l).map (fun q => q.1) = ws.map (fun q => q.1)
  | [], _, _ => rfl
  | x :: l, ws, h => by
    obtain ⟨e0, h0⟩ := h x List.mem_cons_self
    have h1 : (ws.set x.1 x.2).map (fun q => q.1) = ws.map (fun q => q.1) := by
      rw [List.map_set]
      have h3 : (ws.map (fun q => q.1))[x.1]? = some x.2.1 := by rw [List.getElem?_map, h0]; rfl
      apply List.ext_getElem?
      intro i
      by_cases hi : x.1 = i
      · subst hi
        rw [List.getElem?_set_self (List.getElem?_eq_some_iff.mp h3).1, h3]
      · rw [List.getElem?_set_ne hi]
    rw [show va_sets ws (x :: l) = va_sets (ws.set x.1 x.2) l from rfl, va_sets_at l (ws.set x.1 x.2) (fun y hy => ?_), h1]
    obtain ⟨e1, h2⟩ := h y (List.mem_cons_of_mem _ hy)
    have h4 : ((ws.set x.1 x.2).map (fun q => q.1))[y.1]? = some y.2.1 := by rw [h1, List.getElem?_map, h2]; rfl
    rw [List.getElem?_map] at h4
    cases h5 : (ws.set x.1 x.2)[y.1]? with
    | none => rw [h5] at h4; cases h4
    | some z => rw [h5] at h4; exact ⟨z.2, by rw [← Option.some.inj h4]⟩
/-- behind a call on the cells at the places isC: they are set -/
theorem va_put2 {A0 : Nat → Prop} {D : va_G} {cl : List vw_C} {ws wc w1 ws' : va_W} {H H1 : Heap} (hP : va_P D cl ws H) (hD : va_D A0 ws) (isC : List Nat) (hC : isC.map (fun i => ws[i]?) = wc.map some)
    (hk : ∀ q : Nat, q < H.size → ¬ va_A wc H.size q → H1[q]? = H[q]?) (hP1 : va_P D cl w1 H1) (hl : isC.length = w1.length) (ha : w1.map (fun q => q.1) = wc.map (fun q => q.1)) (hs : ws' = va_sets ws (isC.zip w1)) : va_P D cl ws' H1 ∧ va_D A0 ws' := by
  subst hs
  have hz : (isC.zip w1).map (fun x => x.1) = isC := by rw [List.map_fst_zip]; omega
  refine va_back hP hD isC hC hk hP1 (fun k q hq => ?_) (va_sets_at _ _ fun x hx => ?_)
  · rcases va_sets_in _ _ _ _ hq with ⟨h1, h2⟩ | ⟨x, h1, h2⟩
    · rw [hz] at h1; exact Or.inl ⟨h1, h2⟩
    · have h3 := List.of_mem_zip h1
      obtain ⟨j, hj⟩ := List.getElem?_of_mem h3.2
      exact Or.inr ⟨j, by rw [hj, h2]⟩
  · obtain ⟨j, hj⟩ := List.getElem?_of_mem hx
    rw [List.getElem?_zip_eq_some] at hj
    have h6 : (isC.map (fun i => ws[i]?))[j]? = some ws[x.1]? := by rw [List.getElem?_map, hj.1]; rfl
    have h7 : (w1.map (fun q => q.1))[j]? = some x.2.1 := by rw [List.getElem?_map, hj.2]; rfl
    rw [hC, List.getElem?_map] at h6
    rw [ha, List.getElem?_map] at h7
    cases h8 : wc[j]? with
    | none => rw [h8] at h6; cases h6
    | some z =>
      rw [h8] at h6 h7
      refine ⟨z.2, ?_⟩
      rw [← Option.some.inj h6, ← Option.some.inj h7]
theorem va_X0 (own : String) (ic : Nat) (X : String) (h : X = "java/lang/IllegalStateException" ∨ X = "java/lang/IllegalArgumentException" ∨ X = "java/lang/IndexOutOfBoundsException") : True := trivial
