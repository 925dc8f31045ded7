section
-- ===== PART A: goes FIRST, ahead of the names: the tables' words, and 'selects' of the private methods out of them =====
/-- a private method of a class that the tables say can be made, by its rows of tables_1 -/
def lw_okq (q : MethodName × Nat) : Prop := (q.1.cls ≠ "java/lang/invoke/MethodHandle" ∧ q.1.cls ≠ "java/lang/invoke/VarHandle") ∧ Cond.instantiable q.1.cls q.2 ∈ tables_1 ∧ Cond.privateMethod q.1 ∈ tables_1 ∧ Cond.instanceMethod q.1 ∈ tables_1
theorem lw_p0 : lw_okq (⟨"java/lang/Throwable", "fillInStackTrace", "(I)Ljava/lang/Throwable;"⟩, 6) := ⟨⟨by decide +kernel, by decide +kernel⟩, List.mem_of_getElem? (i := 171) (by decide +kernel), List.mem_of_getElem? (i := 169) (by decide +kernel), List.mem_of_getElem? (i := 170) (by decide +kernel)⟩
theorem lw_p1 : lw_okq (⟨"AvalancheDesk", "checkRegion", "(I)V"⟩, 7) := ⟨⟨by decide +kernel, by decide +kernel⟩, List.mem_of_getElem? (i := 14) (by decide +kernel), List.mem_of_getElem? (i := 205) (by decide +kernel), List.mem_of_getElem? (i := 206) (by decide +kernel)⟩
theorem lw_p2 : lw_okq (⟨"AvalancheDesk$Region", "settle", "(III)V"⟩, 6) := ⟨⟨by decide +kernel, by decide +kernel⟩, List.mem_of_getElem? (i := 23) (by decide +kernel), List.mem_of_getElem? (i := 260) (by decide +kernel), List.mem_of_getElem? (i := 261) (by decide +kernel)⟩
theorem lw_p3 : lw_okq (⟨"AvalancheDesk$Region", "grow", "(III)V"⟩, 6) := ⟨⟨by decide +kernel, by decide +kernel⟩, List.mem_of_getElem? (i := 23) (by decide +kernel), List.mem_of_getElem? (i := 278) (by decide +kernel), List.mem_of_getElem? (i := 279) (by decide +kernel)⟩
theorem lw_p4 : lw_okq (⟨"AvalancheDesk$Region", "blow", "(I)V"⟩, 6) := ⟨⟨by decide +kernel, by decide +kernel⟩, List.mem_of_getElem? (i := 23) (by decide +kernel), List.mem_of_getElem? (i := 282) (by decide +kernel), List.mem_of_getElem? (i := 283) (by decide +kernel)⟩
theorem lw_p5 : lw_okq (⟨"AvalancheDesk$Region", "keepPercent", "(III)V"⟩, 6) := ⟨⟨by decide +kernel, by decide +kernel⟩, List.mem_of_getElem? (i := 23) (by decide +kernel), List.mem_of_getElem? (i := 286) (by decide +kernel), List.mem_of_getElem? (i := 287) (by decide +kernel)⟩
theorem lw_p6 : lw_okq (⟨"AvalancheDesk$Region", "buryHoar", "(III)V"⟩, 6) := ⟨⟨by decide +kernel, by decide +kernel⟩, List.mem_of_getElem? (i := 23) (by decide +kernel), List.mem_of_getElem? (i := 290) (by decide +kernel), List.mem_of_getElem? (i := 291) (by decide +kernel)⟩
theorem lw_p7 : lw_okq (⟨"AvalancheDesk$Region", "thaw", "(II)V"⟩, 6) := ⟨⟨by decide +kernel, by decide +kernel⟩, List.mem_of_getElem? (i := 23) (by decide +kernel), List.mem_of_getElem? (i := 294) (by decide +kernel), List.mem_of_getElem? (i := 295) (by decide +kernel)⟩
theorem lw_p8 : lw_okq (⟨"AvalancheDesk$Region", "sumInCore", "(II)I"⟩, 6) := ⟨⟨by decide +kernel, by decide +kernel⟩, List.mem_of_getElem? (i := 23) (by decide +kernel), List.mem_of_getElem? (i := 370) (by decide +kernel), List.mem_of_getElem? (i := 371) (by decide +kernel)⟩
theorem lw_p9 : lw_okq (⟨"AvalancheDesk", "verdict", "(II)I"⟩, 7) := ⟨⟨by decide +kernel, by decide +kernel⟩, List.mem_of_getElem? (i := 14) (by decide +kernel), List.mem_of_getElem? (i := 437) (by decide +kernel), List.mem_of_getElem? (i := 438) (by decide +kernel)⟩
def lw_privs_1 : List (MethodName × Nat) := [(⟨"java/lang/Throwable", "fillInStackTrace", "(I)Ljava/lang/Throwable;"⟩, 6), (⟨"AvalancheDesk", "checkRegion", "(I)V"⟩, 7), (⟨"AvalancheDesk$Region", "settle", "(III)V"⟩, 6), (⟨"AvalancheDesk$Region", "grow", "(III)V"⟩, 6), (⟨"AvalancheDesk$Region", "blow", "(I)V"⟩, 6), (⟨"AvalancheDesk$Region", "keepPercent", "(III)V"⟩, 6), (⟨"AvalancheDesk$Region", "buryHoar", "(III)V"⟩, 6), (⟨"AvalancheDesk$Region", "thaw", "(II)V"⟩, 6), (⟨"AvalancheDesk$Region", "sumInCore", "(II)I"⟩, 6), (⟨"AvalancheDesk", "verdict", "(II)I"⟩, 7)]
theorem lw_r1 : ∀ q ∈ lw_privs_1, lw_okq q := List.forall_mem_cons.mpr ⟨lw_p0, List.forall_mem_cons.mpr ⟨lw_p1, List.forall_mem_cons.mpr ⟨lw_p2, List.forall_mem_cons.mpr ⟨lw_p3, List.forall_mem_cons.mpr ⟨lw_p4, List.forall_mem_cons.mpr ⟨lw_p5, List.forall_mem_cons.mpr ⟨lw_p6, List.forall_mem_cons.mpr ⟨lw_p7, List.forall_mem_cons.mpr ⟨lw_p8, List.forall_mem_cons.mpr ⟨lw_p9, fun _ h => absurd h List.not_mem_nil⟩⟩⟩⟩⟩⟩⟩⟩⟩⟩
def lw_privs : List (MethodName × Nat) := lw_privs_1
def lw_tbl : List Cond := k2_sels lw_privs ++ tables_1
theorem lw_privs_ok : ∀ q ∈ lw_privs, lw_okq q := lw_r1
/-- the streams that the claim lets the run draw from -/
abbrev lw_cs : List Choice := [Jvm.Choice.named "NaN.bits"]
theorem lw_bits : nanBits ∈ lw_cs := by first | decide | exact List.mem_cons_self | simp [lw_cs, nanBits]
-- ===== end of PART A; then your names; then what follows =====
end
section
/-! ===== BEGIN words of one list among another's, by their places ===== -/
theorem goodIn_r {big : List Cond} (ws : List Cond) (ps : List Nat) (hp : ws = ps.filterMap (fun i => big[i]?)) (h : ws.all goodWord = true) : GoodIn big ws := by
  intro w hw
  have h1 := List.all_eq_true.mp h w hw
  rw [hp] at hw
  obtain ⟨i, -, hi⟩ := List.mem_filterMap.mp hw
  have hm : w ∈ big := by first | exact List.mem_of_getElem? hi | exact List.getElem?_mem hi
  exact ⟨hm, good_of_word h1⟩
theorem goodIn_app {big a b : List Cond} (ha : GoodIn big a) (hb : GoodIn big b) : GoodIn big (a ++ b) := fun w h => (List.mem_append.mp h).elim (ha w) (hb w)
theorem goodIn_ca {big a b : List Cond} {c : Cond} (ha : GoodIn big (c :: a)) (hb : GoodIn big b) : GoodIn big (c :: (a ++ b)) := fun w h => (List.mem_cons.mp h).elim (fun e => ha w (List.mem_cons.mpr (Or.inl e))) (fun h => (List.mem_append.mp h).elim (fun h => ha w (List.mem_cons.mpr (Or.inr h))) (hb w))
theorem goodIn_sub {big ws : List Cond} (hm : ∀ w ∈ ws, w ∈ big) (h : ws.all goodWord = true) : GoodIn big ws := fun w hw => ⟨hm w hw, good_of_word (List.all_eq_true.mp h w hw)⟩
/-! ===== END ===== -/

/-! ===== BEGIN exceptions that leave a method, and their catching by the caller (launches without stack traces) ===== -/
section VXA
/-! The laws vx_back, vx_callV, vx_callS, vx_callSW, vx_throw0, vx_throwS follow proofs of the library, with one case more: JvmDerived/Free/Laws.lean (Back.of_free), Shelf42/LK1.lean (callV, callS), Shelf/KitTraced.lean (throwNew0V, throwNewS). -/
/-- where a method has thrown q: the class by its name, the cell, what was written, the world -/
def vx_T (XC : String → State → State → Prop) (st : State) (q : Addr) (t : State) (mc ms : Nat) (free : Addr → Prop) : Prop :=
  ∃ (E : String) (ce : Cell) (L : List Loc), XC E st t ∧ t.heap[q]? = some ce ∧ ce.vm = .none ∧ st.vm.findClass E = some ce.cls ∧ st.WarmedH t.vm ∧ st.sameButNew ({ t with vm := st.vm } : State) L mc ms ∧ ∀ z ∈ L, free z.base
def vx_Q (Qc : Array Value → State → Outcome → State → Prop) (XC : String → State → State → Prop) (mc ms : Nat) (free : Addr → Prop) : Array Value → State → Outcome → State → Prop := fun a st o t =>
  (Qc a st o t ∧ ∃ L, FrameEnd st o t L mc ms ∧ ∀ q ∈ L, free q.base) ∨ ∃ q, o = .threw q ∧ vx_T XC st q t mc ms free
/-- a callee that returns or throws -/
def vx_Met (l : Launch) (y : MethodName) (ws : List Cond) (rm : Room) (Pc : Array Value → State → Prop) (Qc : Array Value → State → Outcome → State → Prop) (XC : String → State → State → Prop) (mc ms : Nat) (free : Addr → Prop) : Prop :=
  MetFree l y (headSpec ws rm) Pc (fun _ _ _ _ _ => True) (vx_Q Qc XC mc ms free)
def vx_Post (XC : String → State → State → Prop) (mc ms : Nat) (free : Addr → Prop) : Pt → Array Value → Addr → Pt → Prop := fun A a q B =>
  ∃ (g : JFrame) (mk : MethodId) (t : State) (L : List Loc) (E : String) (ce : Cell), B.U.heap = t.heap ∧ B.U.vm = t.vm ∧ XC E (A.U.calling g mk a) t ∧ t.heap[q]? = some ce ∧ ce.vm = .none ∧ A.U.vm.findClass E = some ce.cls ∧ B.locs = A.locs ++ L ∧ (∀ z ∈ L, free z.base) ∧ B.cells = A.cells + mc ∧ B.slots = A.slots + ms
def vx_Back (l : Launch) (R : Room) (p : Program) (e : Env) (below : List Frame) (s : State) (sargs : Array Value) (y : MethodName) (len W9 : Nat)
    (Pre : Pt → Array Value → Prop) (Post : Pt → Array Value → Option Value → Pt → Prop) (PostX : Pt → Array Value → Addr → Pt → Prop) : Prop :=
  ∀ (m : MethodId) (meth : Method) (c : Code) (A : Pt) (g : JFrame) (ig : Instr) (mk : MethodId) (a : Array Value),
    Stand p l e R s m sargs below meth c A.U A.locs A.cells A.slots → g.method = m → g.locals.size = c.maxLocals → decode c.code g.pc = .ok (ig, len) →
    2 * g.monitorRoom + (g.stack.map fun v => v.category).sum ≤ W9 → A.U.methodNamed? y = some mk → Pre A a →
    (∃ (v : Option Value) (B : Pt), Stand p l e R s m sargs below meth c B.U B.locs B.cells B.slots ∧ Post A a v B ∧
      Steps p.tables e below (doInvoke e (A.U.setTop g) [] mk a).1 (B.U.setTop { g with pc := g.pc + len, stack := v.toList ++ g.stack })) ∨
    (∃ (q : Addr) (B : Pt), Stand p l e R s m sargs below meth c B.U B.locs B.cells B.slots ∧ PostX A a q B ∧
      Steps p.tables e below (doInvoke e (A.U.setTop g) [] mk a).1 ((B.U.setTop g).pushFrame (.throwing q)))
section Payer
variable {l : Launch} {R : Room} {p : Program} {e : Env} {below : List Frame} {s : State} {sargs : Array Value} {y : MethodName} {len W9 : Nat}
theorem vx_back {ws : List Cond} {rm : Room} {Pc : Array Value → State → Prop} {Qc : Array Value → State → Outcome → State → Prop} {XC : String → State → State → Prop} {mc ms : Nat} {free : Addr → Prop} {bytes : ByteArray} {maxL : Nat} {ret : Option FieldType}
    (hM : vx_Met l y ws rm Pc Qc XC mc ms free) (hblind : FrameBlind Pc) (hrc : rm.cells = mc) (hrs : rm.slots = ms)
    (hframes : rm.frames + 1 ≤ R.frames) (hlocals : W9 + (maxL + 11) + rm.locals ≤ R.locals)
    (hws : ∀ w ∈ ws, ∀ a' U, s.WarmedH U.vm → w.before a' U = true) (hcode : Cond.code y bytes maxL ret ∈ ws) (hinit : ∀ a' U, s.WarmedH U.vm → (Cond.initialized y.cls).before a' U = true) :
    vx_Back l R p e below s sargs y len W9 (PreOf R mc ms Pc) (PostOf Qc mc ms free) (vx_Post XC mc ms free) := by
  intro m meth c A g ig mk a X hg hsize hdg hW hn hp
  have h1 : (headSpec ws rm).pre.before a A.U = true := atoms_intro fun w hw => hws w hw _ _ X.warmed
  have h2 : (Cond.code y bytes maxL ret).before a A.U = true := hws _ hcode _ _ X.warmed
  have h3 : (Cond.initialized y.cls).before a A.U = true := hinit _ _ X.warmed
  have h4 : A.cells + (headSpec ws rm).room.cells ≤ R.cells := by rw [show (headSpec ws rm).room.cells = mc from hrc]; exact hp.1
  have h5 : A.slots + (headSpec ws rm).room.slots ≤ R.slots := by rw [show (headSpec ws rm).room.slots = ms from hrs]; exact hp.2.1
  have hPc : Pc a (A.U.calling g mk a) := hblind _ _ _ _ hp.2.2
  obtain ⟨U, Ls, c0, s0⟩ := A
  dsimp only [Pt.U, Pt.locs, Pt.cells, Pt.slots] at h1 h2 h3 h4 h5 X hn hPc ⊢
  obtain ⟨methY, cY, hmY, hcY, -, hlY, -, -, -, -⟩ := Cond.code_spec hn h2
  obtain ⟨kY, hkY, -⟩ := className_of_methodNamed hn
  have hinitY : kY.init = .initialized := Cond.initialized_spec (findClass_of_methodNamed hn) hkY h3
  have h : At U g.method c below := by rw [hg]; exact X.here
  have hlocals9 : W9 + (maxL + 11) + (headSpec ws rm).room.locals ≤ R.locals := hlocals
  have happ : (headSpec ws rm).appliesLoose y e.platform (U.calling g mk a) = true :=
    Spec.appliesLoose_calling (g := g) h hdg hn hkY hinitY
      (X.room_calling (g := g) (R' := (headSpec ws rm).room) hsize hmY hcY hframes (by rw [hlY]; omega) h4 h5) h1
  obtain ⟨mid, hmid⟩ := h.above
  have hfr : (U.setTop g).frames = (.java g :: mid) ++ below := by rw [State.frames_setTop' g h.top, hmid]; rfl
  obtain ⟨o, s₂, hsteps, -, hend, hq⟩ := Steps.callFree hM p X.admits X.cas X.clock (acts := []) hfr happ hPc trivial
  have hq' : vx_Q Qc XC mc ms free a (U.calling g mk a) o s₂ := hq
  rw [State.frames_setTop' g h.top] at hend
  obtain ⟨g₀, hg0⟩ := Option.isSome_iff_exists.mp h.top
  obtain ⟨r, hr⟩ := State.topJava?_eq_some.mp hg0
  have hr' : (({ U with heap := s₂.heap, slotsUsed := s₂.slotsUsed } : State).setVm s₂.vm).frames = .java g₀ :: r := hr
  rcases hq' with ⟨hqc, L, hfe, hL⟩ | ⟨q, rfl, E, ce, L, hx, hce, hcv, hcl, hW₂, hsm, hL⟩
  · obtain ⟨⟨v, rfl⟩, hW₂, e2, q2, q3, q4, q5, q6⟩ := id hfe
    have e3 : s₂ = ({ (U.calling g mk a).setFrames s₂.frames with heap := s₂.heap, slotsUsed := s₂.slotsUsed } : State).setVm s₂.vm := by
      have : s₂ = ({ s₂ with vm := (U.calling g mk a).vm } : State).setVm s₂.vm := rfl
      rw [e2] at this
      exact this
    obtain ⟨c₂, i₂, len₂, hc₂, hd₂, hf₂⟩ := hend
    have hW' : U.WarmedH s₂.vm := hW₂
    have hcc : c₂ = c := by
      have h1 : s₂.code? g.method = U.code? g.method := by
        rw [State.code?_eq, State.code?_eq, hW'.alike.method?]
      exact Option.some.inj (hc₂.symm.trans (h1.trans h.code))
    subst hcc
    have hlen : len₂ = len := by rw [hdg] at hd₂; cases hd₂; rfl
    subst hlen
    have hs₂ : s₂ = (({ U with heap := s₂.heap, slotsUsed := s₂.slotsUsed } : State).setVm s₂.vm).setTop { g with pc := g.pc + len₂, stack := v.toList ++ g.stack } := by
      refine e3.trans ?_
      rw [hf₂, State.calling_eq h.top, State.setFrames_setFrames, State.setTop_of_frames _ hr', hr]
      rfl
    have hsame : U.sameButNew ({ U with heap := s₂.heap, slotsUsed := s₂.slotsUsed } : State) L mc ms := by
      refine ⟨?_, q2, q3, q4, q5, q6⟩
      obtain ⟨t, ht, -⟩ := State.frames_cons hr
      show ({ U with heap := s₂.heap, slotsUsed := s₂.slotsUsed } : State) = { U.setFrames U.frames with heap := s₂.heap, slotsUsed := s₂.slotsUsed }
      rw [State.setFrames_self ht]
    subst hg
    refine Or.inl ⟨v, ⟨(({ U with heap := s₂.heap, slotsUsed := s₂.slotsUsed } : State).setVm s₂.vm), Ls ++ L, c0 + mc, s0 + ms⟩,
      ⟨X.admits, X.cas, X.clock, X.frames, X.room, X.hears, X.method, X.code, (X.here.setHeapUsed s₂.heap s₂.slotsUsed).setVm hW'.alike, X.tail, State.WarmedH.trans X.warmed hW', X.limits, X.bytes, X.same.trans (hsame.setVm s.vm)⟩,
      ⟨g, mk, s₂, L, rfl, rfl, hqc, rfl, hL, rfl, rfl⟩, ?_⟩
    show Steps p.tables e below _ ((({ U with heap := s₂.heap, slotsUsed := s₂.slotsUsed } : State).setVm s₂.vm).setTop { g with pc := g.pc + len₂, stack := v.toList ++ g.stack })
    rw [← hs₂]
    exact hsteps
  · obtain ⟨e2, q2, q3, q4, q5, q6⟩ := id hsm
    have e3 : s₂ = ({ (U.calling g mk a).setFrames s₂.frames with heap := s₂.heap, slotsUsed := s₂.slotsUsed } : State).setVm s₂.vm := by
      have : s₂ = ({ s₂ with vm := (U.calling g mk a).vm } : State).setVm s₂.vm := rfl
      rw [e2] at this
      exact this
    have hf₂ : s₂.frames = .throwing q :: .java g :: U.frames.tail := hend
    have hW' : U.WarmedH s₂.vm := hW₂
    have hs₂ : s₂ = ((({ U with heap := s₂.heap, slotsUsed := s₂.slotsUsed } : State).setVm s₂.vm).setTop g).pushFrame (.throwing q) := by
      refine e3.trans ?_
      rw [hf₂, State.calling_eq h.top, State.setFrames_setFrames, State.pushFrame, State.frames_setTop _ hr', State.setTop_of_frames _ hr', State.setFrames_setFrames, hr]
      rfl
    have hsame : U.sameButNew ({ U with heap := s₂.heap, slotsUsed := s₂.slotsUsed } : State) L mc ms := by
      refine ⟨?_, q2, q3, q4, q5, q6⟩
      obtain ⟨t, ht, -⟩ := State.frames_cons hr
      show ({ U with heap := s₂.heap, slotsUsed := s₂.slotsUsed } : State) = { U.setFrames U.frames with heap := s₂.heap, slotsUsed := s₂.slotsUsed }
      rw [State.setFrames_self ht]
    subst hg
    refine Or.inr ⟨q, ⟨(({ U with heap := s₂.heap, slotsUsed := s₂.slotsUsed } : State).setVm s₂.vm), Ls ++ L, c0 + mc, s0 + ms⟩,
      ⟨X.admits, X.cas, X.clock, X.frames, X.room, X.hears, X.method, X.code, (X.here.setHeapUsed s₂.heap s₂.slotsUsed).setVm hW'.alike, X.tail, State.WarmedH.trans X.warmed hW', X.limits, X.bytes, X.same.trans (hsame.setVm s.vm)⟩,
      ⟨g, mk, s₂, L, E, ce, rfl, rfl, hx, hce, hcv, hcl, rfl, hL, rfl, rfl⟩, ?_⟩
    show Steps p.tables e below _ (((({ U with heap := s₂.heap, slotsUsed := s₂.slotsUsed } : State).setVm s₂.vm).setTop g).pushFrame (.throwing q))
    rw [← hs₂]
    exact hsteps
end Payer
section Calls
variable {p : Program} {l : Launch} {e : Env} {R : Room} {s : State} {m : MethodId} {args : Array Value} {below : List Frame} {meth : Method} {c : Code} {T : State} {locs : List Loc} {cells slots : Nat}
theorem vx_callV (X : Stand p l e R s m args below meth c T locs cells slots) (hexec : p.tables.exec = Jvm.exec) {own C : String} {index : Nat} {y : MethodName} {bytes : ByteArray} {maxL : Nat} {ret : Option FieldType}
    (hown : s.vm.findClass own = some m.cls) (hlink : (Cond.methodLink own index y).before args s = true) (hinst : (Cond.instanceMethod y).before args s = true) (hsel : (Cond.selects C y y).before args s = true)
    (hcode : (Cond.code y bytes maxL ret).before args s = true) (hy : y.cls ≠ "java/lang/invoke/MethodHandle" ∧ y.cls ≠ "java/lang/invoke/VarHandle")
    {W9 : Nat} {Pre : Pt → Array Value → Prop} {Post : Pt → Array Value → Option Value → Pt → Prop} {PostX : Pt → Array Value → Addr → Pt → Prop} (hK : vx_Back l R p e below s args y 3 W9 Pre Post PostX)
    {b : Addr} {cellB : Cell} (hcell : T.heap[b]? = some cellB) (hobj : cellB.vm.isStatics = false) (hcls : s.vm.findClass C = some cellB.cls)
    {g : JFrame} (hg : g.method = m) (hsize : g.locals.size = c.maxLocals) {argsL rest : List Value} (hlen : ∀ sig, parseMethodDescriptor y.desc = some sig → argsL.length = sig.parameters.length)
    (hstack : g.stack = argsL.reverse ++ .ref b :: rest) (hW : 2 * g.monitorRoom + (rest.map fun v => v.category).sum ≤ W9) (hdg : decode c.code g.pc = .ok (.invokevirtual index, 3))
    (hpre : ∀ vm₁, s.WarmedH vm₁ → Pre ⟨T.setVm vm₁, locs, cells, slots⟩ (Value.ref b :: argsL).toArray) :
    (∃ (v : Option Value) (vm₁ : Vm) (B : Pt), s.WarmedH vm₁ ∧ Stand p l e R s m args below meth c B.U B.locs B.cells B.slots ∧ Post ⟨T.setVm vm₁, locs, cells, slots⟩ (Value.ref b :: argsL).toArray v B ∧
      ∀ target, Steps p.tables e below (B.U.setTop { g with pc := g.pc + 3, stack := v.toList ++ rest }) target → Steps p.tables e below (T.setTop g) target) ∨
    (∃ (q : Addr) (vm₁ : Vm) (B : Pt), s.WarmedH vm₁ ∧ Stand p l e R s m args below meth c B.U B.locs B.cells B.slots ∧ PostX ⟨T.setVm vm₁, locs, cells, slots⟩ (Value.ref b :: argsL).toArray q B ∧
      Steps p.tables e below (T.setTop g) ((B.U.setTop { g with stack := rest }).pushFrame (.throwing q))) := by
  obtain ⟨mk, methM, hnamed, hmethM, hstM, habM⟩ := Cond.instanceMethod_spec hinst
  obtain ⟨methM', cM, hmethM', -, -, -, -, -, -, hsigM⟩ := Cond.code_spec hnamed hcode
  cases hmethM.symm.trans hmethM'
  obtain ⟨c2, r2, m2, q1, q2, q3, q4, kP, hkP, hkPi⟩ := Cond.selects_spec hsel
  cases hcls.symm.trans q1
  cases (State.methodFound?_of_named hnamed hy).symm.trans q2
  cases hnamed.symm.trans q3
  have hselP : selectMethod e.platform s.vm cellB.cls mk = .method mk := by rw [Launch.admits_selectMethod X.admits]; exact q4
  obtain ⟨vm₁, X₁, hstep₁⟩ := X.invokevirtual hexec hown hlink hnamed hmethM hstM hkP hkPi hy (a := b) (cell := cellB) hcell
    (fun z h => by rw [h] at hobj; cases hobj) hselP hmethM habM hkP hkPi (g := g) hg (argsL := argsL) (rest := rest) (hlen _ hsigM) hstack hdg
  rcases hK m meth c ⟨T.setVm vm₁, locs, cells, slots⟩ { g with stack := rest } (.invokevirtual index) mk (Value.ref b :: argsL).toArray X₁ hg hsize hdg hW (X₁.named hnamed) (hpre vm₁ X₁.warmed) with ⟨v, B, X', hpost, hsteps⟩ | ⟨q, B, X', hpost, hsteps⟩
  · exact Or.inl ⟨v, vm₁, B, X₁.warmed, X', hpost, fun target h => hstep₁ _ fun acts => by rw [doInvoke_state]; exact hsteps.trans h⟩
  · exact Or.inr ⟨q, vm₁, B, X₁.warmed, X', hpost, hstep₁ _ fun acts => by rw [doInvoke_state]; exact hsteps⟩
theorem vx_callS (X : Stand p l e R s m args below meth c T locs cells slots) (hexec : p.tables.exec = Jvm.exec) {own : String} {index : Nat} {y : MethodName} {bytes : ByteArray} {maxL : Nat} {ret : Option FieldType}
    (hown : s.vm.findClass own = some m.cls) (hlink : (Cond.methodLink own index y).before args s = true) (hstat : (Cond.static y).before args s = true) (hinit : (Cond.initialized y.cls).before args s = true)
    (hcode : (Cond.code y bytes maxL ret).before args s = true) (hy : y.cls ≠ "java/lang/invoke/MethodHandle" ∧ y.cls ≠ "java/lang/invoke/VarHandle")
    {W9 : Nat} {Pre : Pt → Array Value → Prop} {Post : Pt → Array Value → Option Value → Pt → Prop} {PostX : Pt → Array Value → Addr → Pt → Prop} (hK : vx_Back l R p e below s args y 3 W9 Pre Post PostX)
    {g : JFrame} (hg : g.method = m) (hsize : g.locals.size = c.maxLocals) {argsL rest : List Value} (hlen : ∀ sig, parseMethodDescriptor y.desc = some sig → argsL.length = sig.parameters.length)
    (hstack : g.stack = argsL.reverse ++ rest) (hW : 2 * g.monitorRoom + (rest.map fun v => v.category).sum ≤ W9) (hdg : decode c.code g.pc = .ok (.invokestatic index, 3))
    (hpre : ∀ vm₁, s.WarmedH vm₁ → Pre ⟨T.setVm vm₁, locs, cells, slots⟩ argsL.toArray) :
    (∃ (v : Option Value) (vm₁ : Vm) (B : Pt), s.WarmedH vm₁ ∧ Stand p l e R s m args below meth c B.U B.locs B.cells B.slots ∧ Post ⟨T.setVm vm₁, locs, cells, slots⟩ argsL.toArray v B ∧
      ∀ target, Steps p.tables e below (B.U.setTop { g with pc := g.pc + 3, stack := v.toList ++ rest }) target → Steps p.tables e below (T.setTop g) target) ∨
    (∃ (q : Addr) (vm₁ : Vm) (B : Pt), s.WarmedH vm₁ ∧ Stand p l e R s m args below meth c B.U B.locs B.cells B.slots ∧ PostX ⟨T.setVm vm₁, locs, cells, slots⟩ argsL.toArray q B ∧
      Steps p.tables e below (T.setTop g) ((B.U.setTop { g with stack := rest }).pushFrame (.throwing q))) := by
  obtain ⟨mk, hnamed⟩ := Cond.code_named hcode
  obtain ⟨methM, cM, hmethM, -, -, -, -, -, -, hsigM⟩ := Cond.code_spec hnamed hcode
  have hstatic : methM.isStatic = true := Cond.static_spec hnamed hmethM hstat
  obtain ⟨kP, hkP, -⟩ := className_of_methodNamed hnamed
  have hinitP : kP.init = .initialized := Cond.initialized_spec (findClass_of_methodNamed hnamed) hkP hinit
  obtain ⟨vm₁, X₁, hstep₁⟩ := X.invokestatic hexec hown hlink hnamed hmethM hstatic hkP hinitP hy (g := g) hg (argsL := argsL) (rest := rest) (hlen _ hsigM) hstack hdg
  rcases hK m meth c ⟨T.setVm vm₁, locs, cells, slots⟩ { g with stack := rest } (.invokestatic index) mk argsL.toArray X₁ hg hsize hdg hW (X₁.named hnamed) (hpre vm₁ X₁.warmed) with ⟨v, B, X', hpost, hsteps⟩ | ⟨q, B, X', hpost, hsteps⟩
  · exact Or.inl ⟨v, vm₁, B, X₁.warmed, X', hpost, fun target h => hstep₁ _ fun acts => by rw [doInvoke_state]; exact hsteps.trans h⟩
  · exact Or.inr ⟨q, vm₁, B, X₁.warmed, X', hpost, hstep₁ _ fun acts => by rw [doInvoke_state]; exact hsteps⟩
end Calls
theorem vx_cls {s : State} {T : State} {vm₁ : Vm} {E : String} {k : ClassId} (hW : s.WarmedH vm₁) (h : (T.setVm vm₁).vm.findClass E = some k) : s.vm.findClass E = some k := by
  have h1 : vm₁.findClass E = some k := h
  rw [hW.alike.findClass] at h1
  exact h1
/-- the method's frame g, with q thrown over it -/
def vx_W (p : Program) (l : Launch) (e : Env) (R : Room) (s : State) (m : MethodId) (args : Array Value) (below : List Frame) (meth : Method) (c : Code) (H : Heap) (locs : List Loc) (cells slots : Nat) (Q : State → Prop) (g : JFrame) (q : Addr) : Prop :=
  ∀ T : State, T.heap = H → Stand p l e R s m args below meth c T locs cells slots → ∃ t, Steps p.tables e below ((T.setTop g).pushFrame (.throwing q)) t ∧ Q t
def vx_Run (p : Program) (l : Launch) (e : Env) (R : Room) (s : State) (m : MethodId) (args : Array Value) (below : List Frame) (meth : Method) (c : Code) (H : Heap) (locs : List Loc) (cells slots mc ms : Nat) (g : JFrame) (rest : List Value) (Qa : State → Outcome → State → Prop) (XC : String → State → State → Prop) (free : Addr → Prop) : Prop :=
  ∀ T : State, T.heap = H → Stand p l e R s m args below meth c T locs cells slots →
    (∃ (v : Option Value) (st₀ t T' : State) (L : List Loc), st₀.heap = H ∧ Stand p l e R s m args below meth c T' (locs ++ L) (cells + mc) (slots + ms) ∧ (∀ q ∈ L, free q.base) ∧ T'.heap = t.heap ∧ T'.vm = t.vm ∧ Qa st₀ (.returned v) t ∧
      Goes p e below T g T' { g with pc := g.pc + 3, stack := v.toList ++ rest }) ∨
    (∃ (q : Addr) (st₀ t T' : State) (L : List Loc) (E : String) (ce : Cell), st₀.heap = H ∧ Stand p l e R s m args below meth c T' (locs ++ L) (cells + mc) (slots + ms) ∧ (∀ z ∈ L, free z.base) ∧ T'.heap = t.heap ∧ T'.vm = t.vm ∧ XC E st₀ t ∧ t.heap[q]? = some ce ∧ ce.vm = .none ∧ s.vm.findClass E = some ce.cls ∧
      Steps p.tables e below (T.setTop g) ((T'.setTop { g with stack := rest }).pushFrame (.throwing q)))
def vx_X {S : Type} (px : S → Prop) (B : String → S → State → Prop) (A : Nat → Prop) : String → State → State → Prop := fun E st t => ∃ u : S, px u ∧ B E u t ∧ va_F A st t
section Runs
variable {p : Program} {l : Launch} {e : Env} {R : Room} {s : State} {m : MethodId} {args : Array Value} {below : List Frame} {meth : Method} {c : Code} {H : Heap} {locs : List Loc} {cells slots : Nat}
variable {y : MethodName} {bytes cc : ByteArray} {maxL nL mc ms n index : Nat} {ret : Option FieldType} {ws : List Cond} {rm : Room} {Pc : Array Value → State → Prop} {Qc : Array Value → State → Outcome → State → Prop} {XC : String → State → State → Prop} {free : Addr → Prop} {Ts : List Cond} {own C : String} {b : Addr} {As rest : List Value} {g : JFrame}
theorem vx_callBack (cb : CallB R s args own index y bytes maxL ret ws rm mc ms n) (hM : vx_Met l y ws rm Pc Qc XC mc ms free) (hbl : FrameBlind Pc) : vx_Back l R p e below s args y 3 8 (PreOf R mc ms Pc) (PostOf Qc mc ms free) (vx_Post XC mc ms free) := by
  obtain ⟨hrc, hrs, hfr, hlo, hws, hcw, -, hini, -⟩ := cb
  exact vx_back (bytes := bytes) (maxL := maxL) (ret := ret) hM hbl hrc hrs hfr hlo hws hcw (fun a' U hW => word_at hW (Or.inl (by first | rfl | simp [Cond.onTables, Cond.keeps, Cond.steady])) hini)
theorem vx_runV (S : CallFix p m c cc nL s args Ts own) (hM : vx_Met l y ws rm Pc Qc XC mc ms free) (cw : CallW R s args own C index y bytes maxL ret ws rm mc ms n) (hp : PreV s H C b Pc As)
    (hg : g.method = m) (hn : As.length = n) (hsize : g.locals.size = nL) (hstack : g.stack = As.reverse ++ .ref b :: rest) (hW : 2 * g.monitorRoom + (rest.map fun v => v.category).sum ≤ 8) (hdg : decode cc g.pc = .ok (.invokevirtual index, 3)) (hf : cells + mc ≤ R.cells ∧ slots + ms ≤ R.slots) :
    vx_Run p l e R s m args below meth c H locs cells slots mc ms g rest (Qc (Value.ref b :: As).toArray) XC free := by
  have hK : vx_Back l R p e below s args y 3 8 (PreOf R mc ms Pc) (PostOf Qc mc ms free) (vx_Post XC mc ms free) := vx_callBack cw.1 hM hp.1
  obtain ⟨⟨-, -, -, -, -, -, hcode, -, hy, hlen, hl⟩, hin, hse⟩ := cw
  obtain ⟨hx, hb, hml, ho, -⟩ := S
  obtain ⟨-, ⟨cellB, hcB, hoB, hclB⟩, hPc⟩ := hp
  intro T hT X
  rcases vx_callV X hx (C := C) (bytes := bytes) (maxL := maxL) (ret := ret) ho hl hin hse hcode hy hK (by rw [hT]; exact hcB) hoB hclB hg (hsize.trans hml.symm) (argsL := As) (rest := rest) (fun sig h => hn.trans (hlen sig h)) hstack hW (by rw [hb]; exact hdg)
    (fun vm₁ hW₁ => ⟨hf.1, hf.2, hPc (T.setVm vm₁) hT hW₁⟩) with ⟨v, vm₁, ⟨U', l2, c2, s2⟩, hW₁, X', ⟨g', mk, t, L, e1, e2, hq, h1, hL, h2, h3⟩, st⟩ | ⟨q, vm₁, ⟨U', l2, c2, s2⟩, hW₁, X', ⟨g', mk, t, L, E, ce, e1, e2, hq, hce, hcv, hcl, h1, hL, h2, h3⟩, st⟩
  · dsimp only [Pt.U, Pt.locs, Pt.cells, Pt.slots] at X' e1 e2 h1 h2 h3 st
    subst h1; subst h2; subst h3
    exact Or.inl ⟨v, (T.setVm vm₁).calling g' mk (Value.ref b :: As).toArray, t, U', L, hT, X', hL, e1, e2, hq, st⟩
  · dsimp only [Pt.U, Pt.locs, Pt.cells, Pt.slots] at X' e1 e2 h1 h2 h3 st hcl
    subst h1; subst h2; subst h3
    exact Or.inr ⟨q, (T.setVm vm₁).calling g' mk (Value.ref b :: As).toArray, t, U', L, E, ce, hT, X', hL, e1, e2, hq, hce, hcv, vx_cls hW₁ hcl, st⟩
theorem vx_runS (S : CallFix p m c cc nL s args Ts own) (hM : vx_Met l y ws rm Pc Qc XC mc ms free) (cw : CallB R s args own index y bytes maxL ret ws rm mc ms n ∧ (Cond.static y).before args s = true) (hp : PreS s H Pc As)
    (hg : g.method = m) (hn : As.length = n) (hsize : g.locals.size = nL) (hstack : g.stack = As.reverse ++ rest) (hW : 2 * g.monitorRoom + (rest.map fun v => v.category).sum ≤ 8) (hdg : decode cc g.pc = .ok (.invokestatic index, 3)) (hf : cells + mc ≤ R.cells ∧ slots + ms ≤ R.slots) :
    vx_Run p l e R s m args below meth c H locs cells slots mc ms g rest (Qc As.toArray) XC free := by
  have hK : vx_Back l R p e below s args y 3 8 (PreOf R mc ms Pc) (PostOf Qc mc ms free) (vx_Post XC mc ms free) := vx_callBack cw.1 hM hp.1
  obtain ⟨⟨-, -, -, -, -, -, hcode, hini, hy, hlen, hl⟩, hstt⟩ := cw
  obtain ⟨hx, hb, hml, ho, -⟩ := S
  intro T hT X
  rcases vx_callS X hx (bytes := bytes) (maxL := maxL) (ret := ret) ho hl hstt hini hcode hy hK hg (hsize.trans hml.symm) (argsL := As) (rest := rest) (fun sig h => hn.trans (hlen sig h)) hstack hW (by rw [hb]; exact hdg)
    (fun vm₁ hW₁ => ⟨hf.1, hf.2, hp.2 (T.setVm vm₁) hT hW₁⟩) with ⟨v, vm₁, ⟨U', l2, c2, s2⟩, hW₁, X', ⟨g', mk, t, L, e1, e2, hq, h1, hL, h2, h3⟩, st⟩ | ⟨q, vm₁, ⟨U', l2, c2, s2⟩, hW₁, X', ⟨g', mk, t, L, E, ce, e1, e2, hq, hce, hcv, hcl, h1, hL, h2, h3⟩, st⟩
  · dsimp only [Pt.U, Pt.locs, Pt.cells, Pt.slots] at X' e1 e2 h1 h2 h3 st
    subst h1; subst h2; subst h3
    exact Or.inl ⟨v, (T.setVm vm₁).calling g' mk As.toArray, t, U', L, hT, X', hL, e1, e2, hq, st⟩
  · dsimp only [Pt.U, Pt.locs, Pt.cells, Pt.slots] at X' e1 e2 h1 h2 h3 st hcl
    subst h1; subst h2; subst h3
    exact Or.inr ⟨q, (T.setVm vm₁).calling g' mk As.toArray, t, U', L, E, ce, hT, X', hL, e1, e2, hq, hce, hcv, vx_cls hW₁ hcl, st⟩
end Runs
section Rows
variable {p : Program} {l : Launch} {e : Env} {R : Room} {s : State} {m : MethodId} {args : Array Value} {below : List Frame} {meth : Method} {c : Code} {H : Heap} {locs : List Loc} {cells slots : Nat} {Q : State → Prop}
variable {mc ms : Nat} {free : Addr → Prop} {A0 A1 : Nat → Prop} {H0 : Heap} {a : Array Value} {pc : Nat} {ls : Array Slot} {st0 rest : List Value}
theorem vx_keep {st₀ t T' : State} {L : List Loc} (h0 : st₀.heap = H) (e1 : T'.heap = t.heap) (hS : va_S A0 H0 H locs) (hA : ∀ q, q < H.size → A1 q → A0 q) (hf : ∀ q, free q → A0 q) (hL : ∀ q ∈ L, free q.base) (hF : va_F A1 st₀ t) :
    H.size ≤ T'.heap.size ∧ (∀ q : Nat, q < H.size → ¬ A1 q → T'.heap[q]? = H[q]?) ∧ va_S A0 H0 T'.heap (locs ++ L) := by
  obtain ⟨hz, hk⟩ := hF
  rw [h0] at hz hk
  exact ⟨by rw [e1]; exact hz, fun q h1 h2 => by rw [e1]; exact hk q h1 h2,
    ⟨Nat.le_trans hS.1 (by rw [e1]; exact hz), fun q h1 h2 => by rw [e1, hk q (Nat.lt_of_lt_of_le h1 hS.1) (fun z => h2 (hA q (Nat.lt_of_lt_of_le h1 hS.1) z))]; exact hS.2.1 q h1 h2, fun q hq => by
      rcases List.mem_append.mp hq with h | h
      · exact hS.2.2 q h
      · exact hf _ (hL q h)⟩⟩
theorem vx_calli {S SX : Type} {post : Int32 → S → Prop} {px : SX → Prop} {B : S → State → Prop} {BX : String → SX → State → Prop} {AX : Nat → Prop} (hr : vx_Run p l e R s m args below meth c H locs cells slots mc ms (F0 m pc ls st0) rest (va_Qi post B A1 a) (vx_X px BX AX) free) (hS : va_S A0 H0 H locs) (hA : ∀ q, q < H.size → A1 q → A0 q) (hf : ∀ q, free q → A0 q) (hAX : ∀ q, q < H.size → AX q → A0 q)
    (kx : ∀ (E : String) (ce : Cell) (q9 : Addr) (u : SX) (t : State) (H1 : Heap) (locs1 : List Loc), t.heap = H1 → s.vm.Alike t.vm → px u → BX E u t → H.size ≤ H1.size → (∀ q : Nat, q < H.size → ¬ AX q → H1[q]? = H[q]?) → va_S A0 H0 H1 locs1 → H1[q9]? = some ce → ce.vm = .none → s.vm.findClass E = some ce.cls → vx_W p l e R s m args below meth c H1 locs1 (cells + mc) (slots + ms) Q (F0 m pc ls rest) q9)
    (kk : ∀ (r : Int32) (u : S) (t : State) (H1 : Heap) (locs1 : List Loc), t.heap = H1 → s.vm.Alike t.vm → post r u → B u t → H.size ≤ H1.size → (∀ q : Nat, q < H.size → ¬ A1 q → H1[q]? = H[q]?) → va_S A0 H0 H1 locs1 → W p l e R s m args below meth c H1 locs1 (cells + mc) (slots + ms) Q (F0 m (pc + 3) ls (.int r :: rest))) : W p l e R s m args below meth c H locs cells slots Q (F0 m pc ls st0) := by
  intro T hT X
  rcases hr T hT X with ⟨v, st₀, t, T', L, h0, X', hL, e1, e2, ⟨⟨r, u, hv, hp, hb⟩, hF⟩, st⟩ | ⟨q, st₀, t, T', L, E, ce, h0, X', hL, e1, e2, ⟨u, hp, hb, hF⟩, hce, hcv, hcl, st⟩
  · cases hv
    obtain ⟨k1, k2, k3⟩ := vx_keep h0 e1 hS hA hf hL hF
    obtain ⟨t2, a1, b1⟩ := kk r u t T'.heap (locs ++ L) e1.symm (by rw [← e2]; exact X'.warmed.alike) hp hb k1 k2 k3 T' rfl X'
    exact ⟨t2, st t2 a1, b1⟩
  · obtain ⟨k1, k2, k3⟩ := vx_keep h0 e1 hS hAX hf hL hF
    obtain ⟨t2, a1, b1⟩ := kx E ce q u t T'.heap (locs ++ L) e1.symm (by rw [← e2]; exact X'.warmed.alike) hp hb k1 k2 k3 (by rw [e1]; exact hce) hcv hcl T' rfl X'
    exact ⟨t2, st.trans a1, b1⟩
theorem vx_calll {S SX : Type} {post : Int64 → S → Prop} {px : SX → Prop} {B : S → State → Prop} {BX : String → SX → State → Prop} {AX : Nat → Prop} (hr : vx_Run p l e R s m args below meth c H locs cells slots mc ms (F0 m pc ls st0) rest (va_Ql post B A1 a) (vx_X px BX AX) free) (hS : va_S A0 H0 H locs) (hA : ∀ q, q < H.size → A1 q → A0 q) (hf : ∀ q, free q → A0 q) (hAX : ∀ q, q < H.size → AX q → A0 q)
    (kx : ∀ (E : String) (ce : Cell) (q9 : Addr) (u : SX) (t : State) (H1 : Heap) (locs1 : List Loc), t.heap = H1 → s.vm.Alike t.vm → px u → BX E u t → H.size ≤ H1.size → (∀ q : Nat, q < H.size → ¬ AX q → H1[q]? = H[q]?) → va_S A0 H0 H1 locs1 → H1[q9]? = some ce → ce.vm = .none → s.vm.findClass E = some ce.cls → vx_W p l e R s m args below meth c H1 locs1 (cells + mc) (slots + ms) Q (F0 m pc ls rest) q9)
    (kk : ∀ (r : Int64) (u : S) (t : State) (H1 : Heap) (locs1 : List Loc), t.heap = H1 → s.vm.Alike t.vm → post r u → B u t → H.size ≤ H1.size → (∀ q : Nat, q < H.size → ¬ A1 q → H1[q]? = H[q]?) → va_S A0 H0 H1 locs1 → W p l e R s m args below meth c H1 locs1 (cells + mc) (slots + ms) Q (F0 m (pc + 3) ls (.long r :: rest))) : W p l e R s m args below meth c H locs cells slots Q (F0 m pc ls st0) := by
  intro T hT X
  rcases hr T hT X with ⟨v, st₀, t, T', L, h0, X', hL, e1, e2, ⟨⟨r, u, hv, hp, hb⟩, hF⟩, st⟩ | ⟨q, st₀, t, T', L, E, ce, h0, X', hL, e1, e2, ⟨u, hp, hb, hF⟩, hce, hcv, hcl, st⟩
  · cases hv
    obtain ⟨k1, k2, k3⟩ := vx_keep h0 e1 hS hA hf hL hF
    obtain ⟨t2, a1, b1⟩ := kk r u t T'.heap (locs ++ L) e1.symm (by rw [← e2]; exact X'.warmed.alike) hp hb k1 k2 k3 T' rfl X'
    exact ⟨t2, st t2 a1, b1⟩
  · obtain ⟨k1, k2, k3⟩ := vx_keep h0 e1 hS hAX hf hL hF
    obtain ⟨t2, a1, b1⟩ := kx E ce q u t T'.heap (locs ++ L) e1.symm (by rw [← e2]; exact X'.warmed.alike) hp hb k1 k2 k3 (by rw [e1]; exact hce) hcv hcl T' rfl X'
    exact ⟨t2, st.trans a1, b1⟩
theorem vx_callf {S SX : Type} {post : UInt32 → S → Prop} {px : SX → Prop} {B : S → State → Prop} {BX : String → SX → State → Prop} {AX : Nat → Prop} (hr : vx_Run p l e R s m args below meth c H locs cells slots mc ms (F0 m pc ls st0) rest (va_Qf post B A1 a) (vx_X px BX AX) free) (hS : va_S A0 H0 H locs) (hA : ∀ q, q < H.size → A1 q → A0 q) (hf : ∀ q, free q → A0 q) (hAX : ∀ q, q < H.size → AX q → A0 q)
    (kx : ∀ (E : String) (ce : Cell) (q9 : Addr) (u : SX) (t : State) (H1 : Heap) (locs1 : List Loc), t.heap = H1 → s.vm.Alike t.vm → px u → BX E u t → H.size ≤ H1.size → (∀ q : Nat, q < H.size → ¬ AX q → H1[q]? = H[q]?) → va_S A0 H0 H1 locs1 → H1[q9]? = some ce → ce.vm = .none → s.vm.findClass E = some ce.cls → vx_W p l e R s m args below meth c H1 locs1 (cells + mc) (slots + ms) Q (F0 m pc ls rest) q9)
    (kk : ∀ (r : UInt32) (u : S) (t : State) (H1 : Heap) (locs1 : List Loc), t.heap = H1 → s.vm.Alike t.vm → post r u → B u t → H.size ≤ H1.size → (∀ q : Nat, q < H.size → ¬ A1 q → H1[q]? = H[q]?) → va_S A0 H0 H1 locs1 → W p l e R s m args below meth c H1 locs1 (cells + mc) (slots + ms) Q (F0 m (pc + 3) ls (.float r :: rest))) : W p l e R s m args below meth c H locs cells slots Q (F0 m pc ls st0) := by
  intro T hT X
  rcases hr T hT X with ⟨v, st₀, t, T', L, h0, X', hL, e1, e2, ⟨⟨r, u, hv, hp, hb⟩, hF⟩, st⟩ | ⟨q, st₀, t, T', L, E, ce, h0, X', hL, e1, e2, ⟨u, hp, hb, hF⟩, hce, hcv, hcl, st⟩
  · cases hv
    obtain ⟨k1, k2, k3⟩ := vx_keep h0 e1 hS hA hf hL hF
    obtain ⟨t2, a1, b1⟩ := kk r u t T'.heap (locs ++ L) e1.symm (by rw [← e2]; exact X'.warmed.alike) hp hb k1 k2 k3 T' rfl X'
    exact ⟨t2, st t2 a1, b1⟩
  · obtain ⟨k1, k2, k3⟩ := vx_keep h0 e1 hS hAX hf hL hF
    obtain ⟨t2, a1, b1⟩ := kx E ce q u t T'.heap (locs ++ L) e1.symm (by rw [← e2]; exact X'.warmed.alike) hp hb k1 k2 k3 (by rw [e1]; exact hce) hcv hcl T' rfl X'
    exact ⟨t2, st.trans a1, b1⟩
theorem vx_calld {S SX : Type} {post : UInt64 → S → Prop} {px : SX → Prop} {B : S → State → Prop} {BX : String → SX → State → Prop} {AX : Nat → Prop} (hr : vx_Run p l e R s m args below meth c H locs cells slots mc ms (F0 m pc ls st0) rest (va_Qd post B A1 a) (vx_X px BX AX) free) (hS : va_S A0 H0 H locs) (hA : ∀ q, q < H.size → A1 q → A0 q) (hf : ∀ q, free q → A0 q) (hAX : ∀ q, q < H.size → AX q → A0 q)
    (kx : ∀ (E : String) (ce : Cell) (q9 : Addr) (u : SX) (t : State) (H1 : Heap) (locs1 : List Loc), t.heap = H1 → s.vm.Alike t.vm → px u → BX E u t → H.size ≤ H1.size → (∀ q : Nat, q < H.size → ¬ AX q → H1[q]? = H[q]?) → va_S A0 H0 H1 locs1 → H1[q9]? = some ce → ce.vm = .none → s.vm.findClass E = some ce.cls → vx_W p l e R s m args below meth c H1 locs1 (cells + mc) (slots + ms) Q (F0 m pc ls rest) q9)
    (kk : ∀ (r : UInt64) (u : S) (t : State) (H1 : Heap) (locs1 : List Loc), t.heap = H1 → s.vm.Alike t.vm → post r u → B u t → H.size ≤ H1.size → (∀ q : Nat, q < H.size → ¬ A1 q → H1[q]? = H[q]?) → va_S A0 H0 H1 locs1 → W p l e R s m args below meth c H1 locs1 (cells + mc) (slots + ms) Q (F0 m (pc + 3) ls (.double r :: rest))) : W p l e R s m args below meth c H locs cells slots Q (F0 m pc ls st0) := by
  intro T hT X
  rcases hr T hT X with ⟨v, st₀, t, T', L, h0, X', hL, e1, e2, ⟨⟨r, u, hv, hp, hb⟩, hF⟩, st⟩ | ⟨q, st₀, t, T', L, E, ce, h0, X', hL, e1, e2, ⟨u, hp, hb, hF⟩, hce, hcv, hcl, st⟩
  · cases hv
    obtain ⟨k1, k2, k3⟩ := vx_keep h0 e1 hS hA hf hL hF
    obtain ⟨t2, a1, b1⟩ := kk r u t T'.heap (locs ++ L) e1.symm (by rw [← e2]; exact X'.warmed.alike) hp hb k1 k2 k3 T' rfl X'
    exact ⟨t2, st t2 a1, b1⟩
  · obtain ⟨k1, k2, k3⟩ := vx_keep h0 e1 hS hAX hf hL hF
    obtain ⟨t2, a1, b1⟩ := kx E ce q u t T'.heap (locs ++ L) e1.symm (by rw [← e2]; exact X'.warmed.alike) hp hb k1 k2 k3 (by rw [e1]; exact hce) hcv hcl T' rfl X'
    exact ⟨t2, st.trans a1, b1⟩
theorem vx_callv {S SX : Type} {post : S → Prop} {px : SX → Prop} {B : S → State → Prop} {BX : String → SX → State → Prop} {AX : Nat → Prop} (hr : vx_Run p l e R s m args below meth c H locs cells slots mc ms (F0 m pc ls st0) rest (va_Qv post B A1 a) (vx_X px BX AX) free) (hS : va_S A0 H0 H locs) (hA : ∀ q, q < H.size → A1 q → A0 q) (hf : ∀ q, free q → A0 q) (hAX : ∀ q, q < H.size → AX q → A0 q)
    (kx : ∀ (E : String) (ce : Cell) (q9 : Addr) (u : SX) (t : State) (H1 : Heap) (locs1 : List Loc), t.heap = H1 → s.vm.Alike t.vm → px u → BX E u t → H.size ≤ H1.size → (∀ q : Nat, q < H.size → ¬ AX q → H1[q]? = H[q]?) → va_S A0 H0 H1 locs1 → H1[q9]? = some ce → ce.vm = .none → s.vm.findClass E = some ce.cls → vx_W p l e R s m args below meth c H1 locs1 (cells + mc) (slots + ms) Q (F0 m pc ls rest) q9)
    (kk : ∀ (u : S) (t : State) (H1 : Heap) (locs1 : List Loc), t.heap = H1 → s.vm.Alike t.vm → post u → B u t → H.size ≤ H1.size → (∀ q : Nat, q < H.size → ¬ A1 q → H1[q]? = H[q]?) → va_S A0 H0 H1 locs1 → W p l e R s m args below meth c H1 locs1 (cells + mc) (slots + ms) Q (F0 m (pc + 3) ls (rest))) : W p l e R s m args below meth c H locs cells slots Q (F0 m pc ls st0) := by
  intro T hT X
  rcases hr T hT X with ⟨v, st₀, t, T', L, h0, X', hL, e1, e2, ⟨⟨u, hv, hp, hb⟩, hF⟩, st⟩ | ⟨q, st₀, t, T', L, E, ce, h0, X', hL, e1, e2, ⟨u, hp, hb, hF⟩, hce, hcv, hcl, st⟩
  · cases hv
    obtain ⟨k1, k2, k3⟩ := vx_keep h0 e1 hS hA hf hL hF
    obtain ⟨t2, a1, b1⟩ := kk u t T'.heap (locs ++ L) e1.symm (by rw [← e2]; exact X'.warmed.alike) hp hb k1 k2 k3 T' rfl X'
    exact ⟨t2, st t2 a1, b1⟩
  · obtain ⟨k1, k2, k3⟩ := vx_keep h0 e1 hS hAX hf hL hF
    obtain ⟨t2, a1, b1⟩ := kx E ce q u t T'.heap (locs ++ L) e1.symm (by rw [← e2]; exact X'.warmed.alike) hp hb k1 k2 k3 (by rw [e1]; exact hce) hcv hcl T' rfl X'
    exact ⟨t2, st.trans a1, b1⟩
/-- caught by the row x of this method's table; the rows ahead don't take it -/
theorem vx_catch {own name : String} {E : String} {ce : Cell} {q : Addr} (hown : s.vm.findClass own = some m.cls) (pre : List ExceptionTableEntry) (x : ExceptionTableEntry) (suf : List ExceptionTableEntry) (hsplit : c.exceptionTable.toList = pre ++ x :: suf)
    (hpass : ∀ z ∈ pre, covers z pc = false ∨ (z.catchType ≠ 0 ∧ ∃ nm : String, (Cond.classLink own z.catchType nm).before args s = true ∧ va_Nc E nm s)) (hx : covers x pc = true) (h0 : x.catchType ≠ 0)
    (hlink : (Cond.classLink own x.catchType name).before args s = true) (hcast : (Cond.castable E name).before args s = true) (hcell : H[q]? = some ce) (hv : ce.vm = .none) (hcl : s.vm.findClass E = some ce.cls)
    (kk : W p l e R s m args below meth c H locs cells slots Q (F0 m x.handlerPc ls [.ref q])) : vx_W p l e R s m args below meth c H locs cells slots Q (F0 m pc ls rest) q := by
  intro T hT X
  have hpl : e.platform.magicAccessors = ({} : Platform).magicAccessors := by rw [X.admits.platform]
  obtain ⟨c3, c4, hc3, hc4, hasg⟩ := Cond.castable_spec hcast
  cases Option.some.inj (hc3.symm.trans hcl)
  obtain ⟨c5, hc5, hcl5⟩ := Cond.classLink_spec hown hlink e.platform hpl
  cases Option.some.inj (hc4.symm.trans hc5)
  obtain ⟨vm', X', st⟩ := X.thenCaughtThrough q (g := F0 m pc ls rest) rfl (Steps.refl _) (by rw [hT]; exact hcell) (by rw [hv]; rfl) (by obtain ⟨k9, h9, -⟩ := Vm.findClass_spec hcl; exact ⟨k9, h9⟩) pre x suf hsplit
    (fun z hz => by
      rcases hpass z hz with h | ⟨hz0, nm, hl1, hn1⟩
      · exact Or.inl h
      · obtain ⟨c6, hc6, hcl6⟩ := Cond.classLink_spec hown hl1 e.platform hpl
        obtain ⟨a8, b8, h1, h2, h3⟩ := hn1
        cases Option.some.inj (h1.symm.trans hcl)
        cases Option.some.inj (h2.symm.trans hc6)
        exact Or.inr ⟨hz0, _, hcl6, h3⟩) hx (Or.inr ⟨h0, c4, hcl5, hasg⟩)
  obtain ⟨t, a1, b1⟩ := kk (T.setVm vm') hT X'
  exact ⟨t, st.trans a1, b1⟩
end Rows
section Ends
variable {p : Program} {l : Launch} {e : Env} {R : Room} {s : State} {m : MethodId} {args : Array Value} {below : List Frame} {meth : Method} {c : Code} {H : Heap} {locs : List Loc} {cells slots : Nat} {Q : State → Prop}
variable {mc ms : Nat} {free : Addr → Prop} {A0 A1 : Nat → Prop} {H0 : Heap} {a : Array Value} {ls : Array Slot} {st0 rest : List Value}
variable {Qc : Array Value → State → Outcome → State → Prop} {XC : String → State → State → Prop}
/-- what a body that may throw owes at its end -/
def vx_MQ (below : List Frame) (Qc : Array Value → State → Outcome → State → Prop) (XC : String → State → State → Prop) (a : Array Value) (s : State) (mc ms : Nat) (free : Addr → Prop) : State → Prop := fun t =>
  ∃ o, t.status = .running ∧ Ended t below o ∧ vx_Q Qc XC mc ms free a s o t
theorem vx_ret {g : JFrame} {mc ms : Nat} (k : W p l e R s m args below meth c H locs cells slots (MQ below Qc args s mc ms free) g) : W p l e R s m args below meth c H locs cells slots (vx_MQ below Qc XC args s mc ms free) g := by
  intro T hT X
  obtain ⟨t, a1, o, b1, b2, b3, b4⟩ := k T hT X
  exact ⟨t, a1, o, b1, b2, Or.inl ⟨b3, b4⟩⟩
/-- not caught here: it goes on to the caller -/
theorem vx_widen {g : JFrame} {q : Addr} {k n : Nat} (h1 : cells ≤ k) (h2 : slots ≤ n) (kk : vx_W p l e R s m args below meth c H locs k n Q g q) : vx_W p l e R s m args below meth c H locs cells slots Q g q := fun T hT X => kk T hT (stand_widen X h1 h2)
theorem vx_out {pc : Nat} {E : String} {ce : Cell} {q : Addr} {mc ms : Nat} (hout : ∀ x ∈ c.exceptionTable.toList, covers x pc = false) (hlocks : meth.locks = false) (hcell : H[q]? = some ce) (hv : ce.vm = .none) (hcl : s.vm.findClass E = some ce.cls)
    (hx : ∀ t : State, t.heap = H → s.vm.Alike t.vm → XC E s t) (hf : ∀ z ∈ locs, free z.base) (hc : cells ≤ mc) (hs : slots ≤ ms) :
    vx_W p l e R s m args below meth c H locs cells slots (vx_MQ below Qc XC args s mc ms free) (F0 m pc ls rest) q := by
  intro T hT X
  obtain ⟨st1, hrun, hend, hW, hsm⟩ := X.leaveThrown q (g := F0 m pc ls rest) rfl rfl rfl hout hlocks
  have hcell9 : (T.setFrames (.throwing q :: below)).heap[q]? = some ce := by
    show T.heap[q]? = some ce
    rw [hT]; exact hcell
  exact ⟨_, st1, .threw q, hrun, hend, Or.inr ⟨q, rfl, E, ce, locs, hx _ hT hW.alike, hcell9, hv, hcl, hW, hsm.mono hc hs, hf⟩⟩
theorem vx_frame {U : State} {k n : Nat} (h : s.sameButNew ({ U with vm := s.vm } : State) locs k n) : s.heap.size ≤ U.heap.size ∧ ∀ q : Nat, q < s.heap.size → (∀ z ∈ locs, z.base ≠ q) → U.heap[q]? = s.heap[q]? := by
  obtain ⟨-, h2, -, -, -, h6⟩ := h
  refine ⟨h2, fun q hq hz => ?_⟩
  obtain ⟨c9, e1, e2, e3, e4⟩ := h6 q _ (Array.getElem?_eq_getElem hq)
  have hs : c9.slots = (s.heap[q]).slots := Array.ext_getElem? fun i => e4 i fun hm => hz _ hm rfl
  have h9 : c9 = s.heap[q] := by
    rw [hs] at e2
    exact e2
  have e5 : U.heap[q]? = some c9 := e1
  rw [e5, h9, Array.getElem?_eq_getElem hq]
/-- the words of a throw but the four that speak of the heap -/
def vx_no (w : Cond) : Bool := decide (w ≠ .isRef (.static Bundle.tN "UNASSIGNED_STACK" Bundle.steD)) && decide (w ≠ .isRef (.static Bundle.tN "SUPPRESSED_SENTINEL" Bundle.listD)) && decide (w ≠ .laysStatic Bundle.tN "UNASSIGNED_STACK" Bundle.steD) && decide (w ≠ .laysStatic Bundle.tN "SUPPRESSED_SENTINEL" Bundle.listD)
def vx_at0 (own : String) (ic : Nat) (X : String) (names : List String) : List Cond := (Bundle.ownAtoms0 own ic X names).filter vx_no
def vx_atS (own : String) (ic : Nat) (X : String) (names : List String) : List Cond := (Bundle.ownAtoms own ic X names).filter vx_no
/-- a word that the tables alone decide, or a good one -/
def vx_ot (w : Cond) : Bool := w.onTables || goodWord w
theorem vx_ot_at {args a' : Array Value} {s U : State} {w : Cond} (hW : s.WarmedH U.vm) (hvm : s.vm = U.vm) (hg : vx_ot w = true) (h : w.before args s = true) : w.before a' U = true := by
  simp only [vx_ot, Bool.or_eq_true] at hg
  rcases hg with hg | hg
  · exact va_tabs hg hvm h
  · exact word_at hW (good_of_word hg) h
/-- a list's words: the good ones out of the method's own list, the others by premises of their own -/
theorem vx_hat {args : Array Value} {s : State} {L B : List Cond} (h1 : ∀ w ∈ L.filter goodWord, w.before args s = true) (h2 : ∀ w ∈ L.filter (fun w => !goodWord w), w ∈ B) (h3 : ∀ w ∈ B, w.before args s = true) : ∀ w ∈ L, w.before args s = true := by
  intro w hw
  by_cases g : goodWord w = true
  · exact h1 w (List.mem_filter.mpr ⟨hw, g⟩)
  · refine h3 w (h2 w (List.mem_filter.mpr ⟨hw, ?_⟩))
    show (!goodWord w) = true
    cases hgw : goodWord w
    · rfl
    · exact absurd hgw g
theorem vx_c {args : Array Value} {s : State} {w : Cond} {B : List Cond} (h : w.before args s = true) (t : ∀ w ∈ B, w.before args s = true) : ∀ w' ∈ w :: B, w'.before args s = true := fun w' h' => (List.mem_cons.mp h').elim (fun e => by rw [e]; exact h) (t w')
theorem vx_n {args : Array Value} {s : State} : ∀ w ∈ ([] : List Cond), w.before args s = true := fun _ h => nomatch h
theorem vx_own {args : Array Value} {s : State} {L : List Cond} (h1 : ∀ w ∈ L.filter vx_no, w.before args s = true)
    (hU : (Cond.isRef (.static Bundle.tN "UNASSIGNED_STACK" Bundle.steD)).before args s = true) (hN : (Cond.isRef (.static Bundle.tN "SUPPRESSED_SENTINEL" Bundle.listD)).before args s = true)
    (lU : (Cond.laysStatic Bundle.tN "UNASSIGNED_STACK" Bundle.steD).before args s = true) (lN : (Cond.laysStatic Bundle.tN "SUPPRESSED_SENTINEL" Bundle.listD).before args s = true) : ∀ w ∈ L, w.before args s = true := by
  intro w hw
  by_cases e1 : w = .isRef (.static Bundle.tN "UNASSIGNED_STACK" Bundle.steD)
  · rw [e1]; exact hU
  · by_cases e2 : w = .isRef (.static Bundle.tN "SUPPRESSED_SENTINEL" Bundle.listD)
    · rw [e2]; exact hN
    · by_cases e3 : w = .laysStatic Bundle.tN "UNASSIGNED_STACK" Bundle.steD
      · rw [e3]; exact lU
      · by_cases e4 : w = .laysStatic Bundle.tN "SUPPRESSED_SENTINEL" Bundle.listD
        · rw [e4]; exact lN
        · exact h1 w (List.mem_filter.mpr ⟨hw, by unfold vx_no; rw [decide_eq_true e1, decide_eq_true e2, decide_eq_true e3, decide_eq_true e4]; rfl⟩)
/-- where a static field lies, its class's statics cell in H -/
def vx_L (C n d : String) (A : Nat → Prop) (U : State) (H : Heap) : Prop := ∃ (c : ClassId) (k : Class) (i : Nat) (f : Field) (a : Nat) (cell : Cell), U.vm.findClass C = some c ∧ U.fieldFound? C n d = some (c, k, i, f) ∧ f.isStatic = true ∧ k.statics = some a ∧ H[a]? = some cell ∧ cell.vm.isStatics = true ∧ cell.cls = c ∧ f.slot < cell.slots.size ∧ k.staticTypes[f.slot]? = some f.type ∧ ¬ A a
theorem vx_L.moved {C n d : String} {A : Nat → Prop} {u U : State} {H : Heap} (hvm : u.vm.Alike U.vm) (h : vx_L C n d A u H) : vx_L C n d A U H := by
  obtain ⟨c, k, i, f, a, cell, h1, h2, h3, h4, h5, h6, h7, h8, h9, h10⟩ := h
  obtain ⟨k', hi', he⟩ := State.fieldFound?_setVm hvm h2
  exact ⟨c, k', i, f, a, cell, by rw [hvm.findClass]; exact h1, hi', h3, by rw [he]; exact h4, h5, h6, h7, h8, by rw [he]; exact h9, h10⟩
theorem vx_L.kept {C n d : String} {A : Nat → Prop} {U : State} {H H1 : Heap} (h : vx_L C n d A U H) (hq : ∀ a : Nat, a < H.size → ¬ A a → H1[a]? = H[a]?) : vx_L C n d A U H1 := by
  obtain ⟨c, k, i, f, a, cell, h1, h2, h3, h4, h5, h6, h7, h8, h9, h10⟩ := h
  exact ⟨c, k, i, f, a, cell, h1, h2, h3, h4, by rw [hq a (Array.getElem?_eq_some_iff.mp h5).1 h10]; exact h5, h6, h7, h8, h9, h10⟩
theorem vx_L.narrow {C n d : String} {A B : Nat → Prop} {U : State} {H : Heap} (h : vx_L C n d A U H) (hAB : ∀ q, B q → A q) : vx_L C n d B U H := by
  obtain ⟨c, k, i, f, a, cell, h1, h2, h3, h4, h5, h6, h7, h8, h9, h10⟩ := h
  exact ⟨c, k, i, f, a, cell, h1, h2, h3, h4, h5, h6, h7, h8, h9, fun z => h10 (hAB _ z)⟩
theorem vx_L.word {C n d : String} {A : Nat → Prop} {s : State} {args : Array Value} (h : vx_L C n d A s s.heap) : (Cond.laysStatic C n d).before args s = true := by
  obtain ⟨c, k, i, f, a, cell, h1, h2, h3, h4, h5, h6, h7, h8, h9, -⟩ := h
  show (Cond.laysStatic C n d).holds args s none s [] = true
  exact Cond.laysStatic_of h1 h2 h3 h4 h5 h6 h7 h8 h9
/-- .. and what it holds: null or some reference -/
def vx_Zq (C n d : String) (A : Nat → Prop) (U : State) (H : Heap) : Prop := va_Zq C n d A U H ∧ vx_L C n d A U H
theorem vx_Zq.moved {C n d : String} {A : Nat → Prop} {u U : State} {H : Heap} (hvm : u.vm.Alike U.vm) (h : vx_Zq C n d A u H) : vx_Zq C n d A U H := ⟨va_Zq.moved hvm h.1, vx_L.moved hvm h.2⟩
theorem vx_Zq.kept {C n d : String} {A : Nat → Prop} {U : State} {H H1 : Heap} (h : vx_Zq C n d A U H) (hq : ∀ a : Nat, a < H.size → ¬ A a → H1[a]? = H[a]?) : vx_Zq C n d A U H1 := ⟨va_Zq.kept h.1 hq, vx_L.kept h.2 hq⟩
theorem vx_Zq.narrow {C n d : String} {A B : Nat → Prop} {U : State} {H : Heap} (h : vx_Zq C n d A U H) (hAB : ∀ q, B q → A q) : vx_Zq C n d B U H := ⟨va_Zq.narrow h.1 hAB, vx_L.narrow h.2 hAB⟩
theorem vx_Zqof {args : Array Value} {s : State} {C n d : String} {A : Nat → Prop} (hl : (Cond.laysStatic C n d).before args s = true) (hini : (Cond.initialized C).before args s = true) (h : (Cond.isRef (.static C n d)).before args s = true) (hA : ∀ a : Nat, a < s.heap.size → ¬ A a) : vx_Zq C n d A s s.heap := by
  refine ⟨va_Zqof hl hini h hA, ?_⟩
  obtain ⟨c, k, i, f, a, cell, h1, h2, h3, h4, h5, h6, h7, h8, h9⟩ := Cond.laysStatic_spec hl
  exact ⟨c, k, i, f, a, cell, h1, h2, h3, h4, h5, h6, h7, h8, h9, hA a (Array.getElem?_eq_some_iff.mp h5).1⟩
theorem vx_isRef {C n d : String} {v : Value} {A : Nat → Prop} {s : State} {args : Array Value} (h : va_Z C n d v A s s.heap) (hv : v.isRef = true) : (Cond.isRef (.static C n d)).before args s = true := by
  obtain ⟨cf, kf, fi, f, a, cell, h1, h2, h3, h4, h5, h6, h7, -⟩ := h
  have he : (Term.static C n d).eval args s none [] s = some v := by
    simp [Term.eval, State.fieldNamed?, h1, h2, h4, h5, h6, h7]
  simp only [Cond.before, Cond.holds, Cond.value, he]
  cases v <;> simp_all [Value.isRef]
theorem vx_isRefq {C n d : String} {A : Nat → Prop} {s : State} {args : Array Value} (h : va_Zq C n d A s s.heap) : (Cond.isRef (.static C n d)).before args s = true := by
  rcases h with h | ⟨t, h⟩
  · exact vx_isRef h rfl
  · exact vx_isRef h rfl
/-- the same frame, seen from here: as if the method were called anew in this heap -/
theorem vx_rebase {T : State} (X : Stand p l e R s m args below meth c T locs cells slots) {R' : Room} (hf : R'.frames ≤ R.frames) (hl : R'.locals ≤ R.locals) (hc : cells + R'.cells ≤ R.cells) (hs : slots + R'.slots ≤ R.slots) :
    Stand p l e R' ((T.setVm s.vm).setFrames (.invoking m args :: below)) m args below meth c T [] 0 0 := by
  have htop : (T.setVm s.vm).topJava?.isSome := X.here.top
  have hF : ((T.setVm s.vm).setFrames (.invoking m args :: below)).frames = .invoking m args :: below := State.frames_setFrames _ (State.cur_lt_of_top htop)
  obtain ⟨g₀, hg0⟩ := Option.isSome_iff_exists.mp htop
  obtain ⟨r, hr⟩ := State.topJava?_eq_some.mp hg0
  have hl9 : e.platform.stackLimits (T.setVm s.vm).me = e.platform.stackLimits s.me := X.limits
  have hb9 : (T.setVm s.vm).me.stackBytes = s.me.stackBytes := X.bytes
  refine ⟨X.admits, X.cas, X.clock, hF, ?_, X.hears, X.method, X.code, X.here, X.tail, X.warmed, ?_, ?_, ?_⟩
  · have h := X.room
    have hU : ((T.setVm s.vm).setFrames (.invoking m args :: below)).localsInUse = s.localsInUse := by
      rw [State.localsInUse_invoking hF (meth := meth) (c := c) X.method X.code, State.localsInUse_invoking X.frames X.method X.code]
    simp only [State.hasRoom, Bool.and_eq_true, decide_eq_true_eq] at h ⊢
    obtain ⟨⟨⟨⟨h1, h2, h3, h4, h5, h6⟩, h7⟩, h8⟩, h9⟩ := h
    rw [X.frames, List.length_cons] at h2 h3
    have q1 := X.heapSize
    have q2 := X.used
    simp only [hF, hU, List.length_cons, State.stackLimits_setFrames, State.stackBytes_setFrames, hl9, hb9]
    refine ⟨⟨⟨⟨by omega, by omega, by omega, by omega, by omega, h6⟩, ?_⟩, ?_⟩, X.book⟩
    · show T.heap.size + R'.cells ≤ e.platform.maxCells
      omega
    · show T.slotsUsed + R'.slots ≤ e.platform.maxSlots
      omega
  · rw [State.stackLimits_setFrames]; rfl
  · rw [State.stackBytes_setFrames]; rfl
  · refine ⟨?_, Nat.le_refl _, Nat.le_refl _, ?_, ?_, fun a c9 h9 => ⟨c9, h9, rfl, rfl, fun _ _ => rfl⟩⟩
    · obtain ⟨t, ht, -⟩ := State.frames_cons hr
      show T.setVm s.vm = { ((T.setVm s.vm).setFrames (.invoking m args :: below)).setFrames (T.setVm s.vm).frames with heap := T.heap, slotsUsed := T.slotsUsed }
      rw [State.setFrames_setFrames, State.setFrames_self ht]
      rfl
    · show T.slotsUsed = T.slotsUsed + ((T.heap.toList.drop T.heap.size).map (·.slots.size)).sum
      rw [List.drop_eq_nil_of_le (Nat.le_of_eq Array.length_toList)]
      rfl
    · show ((T.heap.toList.drop T.heap.size).map (·.slots.size)).sum ≤ 0
      rw [List.drop_eq_nil_of_le (Nat.le_of_eq Array.length_toList)]
      exact Nat.le_refl _
/-- 'throw new E()': new; dup; invokespecial; athrow -/
theorem vx_throw0 {cc : ByteArray} {pc : Nat} (hexec : p.tables.exec = Jvm.exec) (hb : c.code = cc) (hl : l.stackTraces = false) {own cls : String} {names : List String} {ik ic mc ms : Nat} {A : Nat → Prop}
    (hown : s.vm.findClass own = some m.cls) (hcls : Bundle.fit cls = true) (hnames : ∀ n ∈ names, Bundle.fit n = true)
    (hk : (Cond.classLink own ik cls).before args s = true) (hini : (Cond.initialized cls).before args s = true) (hat : ∀ w ∈ vx_at0 own ic cls names, w.before args s = true)
    (hgood : ∀ w ∈ Cond.classLink own ik cls :: Cond.initialized cls :: vx_at0 own ic cls names, vx_ot w = true)
    (hU : vx_Zq Bundle.tN "UNASSIGNED_STACK" Bundle.steD A s s.heap) (hN : vx_Zq Bundle.tN "SUPPRESSED_SENTINEL" Bundle.listD A s s.heap) (hS : va_S A s.heap H locs) (hsize : ls.size = c.maxLocals)
    (d0 : decode cc pc = .ok (.new ik, 3)) (d3 : decode cc (pc + 3) = .ok (.dup, 1)) (d4 : decode cc (pc + 4) = .ok (.invokespecial ic, 3)) (d7 : decode cc (pc + 7) = .ok (.athrow, 1))
    (hout : ∀ x ∈ c.exceptionTable.toList, covers x (pc + 7) = false)
    (hRframes : names.length + 3 < R.frames) (hRlocals : (rest.map fun v => v.category).sum + (13 * (names.length + 1) + 42) ≤ R.locals) (hRcells : cells + 1 ≤ R.cells) (hRslots : slots + 6 ≤ R.slots) (hlocks : meth.locks = false)
    (hx : ∀ t : State, s.vm.Alike t.vm → H.size ≤ t.heap.size → (∀ q : Nat, q < H.size → t.heap[q]? = H[q]?) → XC cls s t)
    (hf : ∀ z ∈ locs, free z.base) (hc : cells + 1 ≤ mc) (hs : slots + 6 ≤ ms) :
    W p l e R s m args below meth c H locs cells slots (vx_MQ below Qc XC args s mc ms free) (F0 m pc ls rest) := by
  intro T hT X
  have htr : e.platform.stackTraces = false := (show e.platform.stackTraces = l.stackTraces by rw [X.admits.platform]).trans hl
  have Y := vx_rebase X (R' := { frames := R.frames, locals := R.locals, cells := 1, slots := 6 }) (Nat.le_refl _) (Nat.le_refl _) hRcells hRslots
  obtain ⟨s', hA⟩ : ∃ z, z = (T.setVm s.vm).setFrames (.invoking m args :: below) := ⟨_, rfl⟩
  rw [← hA] at Y
  have hvm : s'.vm = s.vm := by rw [hA]; rfl
  have hhp : s'.heap = H := by rw [hA]; exact hT
  have hW0 : s.WarmedH s'.vm := by rw [hvm]; exact State.WarmedH.refl s
  have hat' : ∀ w ∈ vx_at0 own ic cls names, w.before args s' = true := fun w hw => vx_ot_at hW0 hvm.symm (hgood w (List.mem_cons_of_mem _ (List.mem_cons_of_mem _ hw))) (hat w hw)
  have hk' : (Cond.classLink own ik cls).before args s' = true := vx_ot_at hW0 hvm.symm (hgood _ List.mem_cons_self) hk
  have hini' : (Cond.initialized cls).before args s' = true := vx_ot_at hW0 hvm.symm (hgood _ (List.mem_cons_of_mem _ List.mem_cons_self)) hini
  have hU' : vx_Zq Bundle.tN "UNASSIGNED_STACK" Bundle.steD A s' s'.heap := by rw [hhp]; exact vx_Zq.moved hW0.alike (hU.kept hS.2.1)
  have hN' : vx_Zq Bundle.tN "SUPPRESSED_SENTINEL" Bundle.listD A s' s'.heap := by rw [hhp]; exact vx_Zq.moved hW0.alike (hN.kept hS.2.1)
  have h : ∀ w ∈ Bundle.ownAtoms0 own ic cls names, w.before args s' = true := vx_own hat' (vx_isRefq hU'.1) (vx_isRefq hN'.1) hU'.2.word hN'.2.word
  have hown' : s'.vm.findClass own = some m.cls := by rw [hvm]; exact hown
  have hins : (Cond.instantiable cls 6).before args s' = true := h _ (by simp [Bundle.ownAtoms0])
  obtain ⟨vm₁, cX, kX, hfX, hkX, -, -, X₁, st1⟩ := Y.newCold hexec (own := own) (C := cls) (index := ik) (n := 6) hown' hk' hins hini'
    (g := F0 m pc ls rest) rfl (by rw [hb]; exact d0) (Nat.le_refl _) (Nat.le_refl _)
  generalize hT1 : (T.setVm vm₁).pushCell { cls := cX, slots := kX.instanceTypes.map defaultValue, vm := .none } = T1 at X₁ st1
  have hcat : (Value.ref T.heap.size).category = 1 := rfl
  have hcellA : T1.heap[T.heap.size]? = some (freshCell cX kX) := by rw [← hT1]; exact State.heap_pushCell_size _ _
  have d3' : decode c.code (pc + 3) = .ok (.dup, 1) := by rw [hb]; exact d3
  obtain ⟨U, hsteps, hrun, hend, hW, hsame, ce, hce, hO⟩ := X₁.ctorThrow0 hexec htr (own := own) (cls := cls) (names := names) (ic := ic) hown' hcls hnames h (fun x hx => nomatch hx) hfX hkX hcellA (by rw [hhp, hT]; exact Nat.le_refl _)
    (g := { method := m, pc := pc + 4, locals := ls, stack := .ref T.heap.size :: .ref T.heap.size :: rest, locked := none }) rfl hsize rfl rfl (rest := rest) rfl
    (by rw [hb]; exact d4) (by rw [hb]; exact d7) hout hRframes (by simp only [List.map_cons, List.sum_cons, hcat]; omega) hlocks
  obtain ⟨f1, f2⟩ := vx_frame hsame
  rw [hhp] at f1 f2
  have hWs : s.WarmedH U.vm := State.WarmedH.trans hW0 hW
  have hcl : s.vm.findClass cls = some ce.cls := by
    have h9 := hO.cls
    rw [hvm] at h9
    exact h9
  have hall : s.sameButNew ({ U with vm := s.vm } : State) locs mc ms := by
    subst hA
    obtain ⟨e1, e2⟩ := hsame
    rw [State.setFrames_setFrames] at e1
    have h2 : (T.setVm s.vm).sameButNew ({ U with vm := s.vm } : State) [] (0 + 1) (0 + 6) := ⟨e1, e2⟩
    have h3 := X.same.trans h2
    rw [List.append_nil] at h3
    exact h3.mono hc hs
  refine ⟨U, ?_, .threw T.heap.size, hrun, hend, Or.inr ⟨T.heap.size, rfl, cls, ce, locs, hx U hWs.alike f1 (fun q hq => f2 q hq (fun z hz => nomatch hz)), hce, hO.vm, hcl, hWs, hall, hf⟩⟩
  refine st1 _ ?_
  show Steps p.tables e below (T1.setTop { method := m, pc := pc + 3, locals := ls, stack := .ref T.heap.size :: rest, locked := none }) _
  jvm_step X₁.here [X₁.here.top, hexec, d3', Value.category]
  exact hsteps
/-- 'throw new E("text")': new; dup; ldc; invokespecial; athrow -/
theorem vx_throwS {cc : ByteArray} {pc : Nat} (hexec : p.tables.exec = Jvm.exec) (hb : c.code = cc) (hl : l.stackTraces = false) {own cls text : String} {names : List String} {ik is ic mc ms sa : Nat} {A : Nat → Prop}
    (hown : s.vm.findClass own = some m.cls) (hcls : Bundle.fit cls = true) (hnames : ∀ n ∈ names, Bundle.fit n = true)
    (hk : (Cond.classLink own ik cls).before args s = true) (hini : (Cond.initialized cls).before args s = true) (hstr : vk_R own is text sa s) (hat : ∀ w ∈ vx_atS own ic cls names, w.before args s = true)
    (hgood : ∀ w ∈ Cond.classLink own ik cls :: Cond.initialized cls :: vx_atS own ic cls names, vx_ot w = true)
    (hU : vx_Zq Bundle.tN "UNASSIGNED_STACK" Bundle.steD A s s.heap) (hN : vx_Zq Bundle.tN "SUPPRESSED_SENTINEL" Bundle.listD A s s.heap) (hS : va_S A s.heap H locs) (hsize : ls.size = c.maxLocals)
    (d0 : decode cc pc = .ok (.new ik, 3)) (d3 : decode cc (pc + 3) = .ok (.dup, 1)) (d4 : decode cc (pc + 4) = .ok (.ldc is, 2)) (d6 : decode cc (pc + 6) = .ok (.invokespecial ic, 3)) (d9 : decode cc (pc + 9) = .ok (.athrow, 1))
    (hout : ∀ x ∈ c.exceptionTable.toList, covers x (pc + 9) = false)
    (hRframes : names.length + 3 < R.frames) (hRlocals : (rest.map fun v => v.category).sum + (13 * (names.length + 1) + 43) ≤ R.locals) (hRcells : cells + 1 ≤ R.cells) (hRslots : slots + 6 ≤ R.slots) (hlocks : meth.locks = false)
    (hx : ∀ t : State, s.vm.Alike t.vm → H.size ≤ t.heap.size → (∀ q : Nat, q < H.size → t.heap[q]? = H[q]?) → XC cls s t)
    (hf : ∀ z ∈ locs, free z.base) (hc : cells + 1 ≤ mc) (hs : slots + 6 ≤ ms) :
    W p l e R s m args below meth c H locs cells slots (vx_MQ below Qc XC args s mc ms free) (F0 m pc ls rest) := by
  intro T hT X
  have htr : e.platform.stackTraces = false := (show e.platform.stackTraces = l.stackTraces by rw [X.admits.platform]).trans hl
  have Y := vx_rebase X (R' := { frames := R.frames, locals := R.locals, cells := 1, slots := 6 }) (Nat.le_refl _) (Nat.le_refl _) hRcells hRslots
  obtain ⟨s', hA⟩ : ∃ z, z = (T.setVm s.vm).setFrames (.invoking m args :: below) := ⟨_, rfl⟩
  rw [← hA] at Y
  have hvm : s'.vm = s.vm := by rw [hA]; rfl
  have hhp : s'.heap = H := by rw [hA]; exact hT
  have hW0 : s.WarmedH s'.vm := by rw [hvm]; exact State.WarmedH.refl s
  have hat' : ∀ w ∈ vx_atS own ic cls names, w.before args s' = true := fun w hw => vx_ot_at hW0 hvm.symm (hgood w (List.mem_cons_of_mem _ (List.mem_cons_of_mem _ hw))) (hat w hw)
  have hk' : (Cond.classLink own ik cls).before args s' = true := vx_ot_at hW0 hvm.symm (hgood _ List.mem_cons_self) hk
  have hini' : (Cond.initialized cls).before args s' = true := vx_ot_at hW0 hvm.symm (hgood _ (List.mem_cons_of_mem _ List.mem_cons_self)) hini
  have hU' : vx_Zq Bundle.tN "UNASSIGNED_STACK" Bundle.steD A s' s'.heap := by rw [hhp]; exact vx_Zq.moved hW0.alike (hU.kept hS.2.1)
  have hN' : vx_Zq Bundle.tN "SUPPRESSED_SENTINEL" Bundle.listD A s' s'.heap := by rw [hhp]; exact vx_Zq.moved hW0.alike (hN.kept hS.2.1)
  have h : ∀ w ∈ Bundle.ownAtoms own ic cls names, w.before args s' = true := vx_own hat' (vx_isRefq hU'.1) (vx_isRefq hN'.1) hU'.2.word hN'.2.word
  have hown' : s'.vm.findClass own = some m.cls := by rw [hvm]; exact hown
  have hins : (Cond.instantiable cls 6).before args s' = true := h _ (by simp [Bundle.ownAtoms])
  obtain ⟨vm₁, cX, kX, hfX, hkX, -, -, X₁, st1⟩ := Y.newCold hexec (own := own) (C := cls) (index := ik) (n := 6) hown' hk' hins hini'
    (g := F0 m pc ls rest) rfl (by rw [hb]; exact d0) (Nat.le_refl _) (Nat.le_refl _)
  generalize hT1 : (T.setVm vm₁).pushCell { cls := cX, slots := kX.instanceTypes.map defaultValue, vm := .none } = T1 at X₁ st1
  have hcat : (Value.ref T.heap.size).category = 1 := rfl
  have hcellA : T1.heap[T.heap.size]? = some (freshCell cX kX) := by rw [← hT1]; exact State.heap_pushCell_size _ _
  have d3' : decode c.code (pc + 3) = .ok (.dup, 1) := by rw [hb]; exact d3
  have d4' : decode c.code (pc + 4) = .ok (.ldc is, 2) := by rw [hb]; exact d4
  have hstr' : vk_R own is text sa s' := vk_R.warm hW0 hstr
  obtain ⟨U, hsteps, hrun, hend, hW, hsame, ce, hce, hO⟩ := X₁.ctorThrowS hexec htr (own := own) (cls := cls) (names := names) (ic := ic) hown' hcls hnames h (fun x hx => nomatch hx) hfX hkX hcellA (by rw [hhp, hT]; exact Nat.le_refl _) (msg := .ref sa) rfl
    (g := { method := m, pc := pc + 6, locals := ls, stack := .ref sa :: .ref T.heap.size :: .ref T.heap.size :: rest, locked := none }) rfl hsize rfl rfl (rest := rest) rfl
    (by rw [hb]; exact d6) (by rw [hb]; exact d9) hout hRframes (by simp only [List.map_cons, List.sum_cons, hcat]; omega) hlocks
  obtain ⟨f1, f2⟩ := vx_frame hsame
  rw [hhp] at f1 f2
  have hWs : s.WarmedH U.vm := State.WarmedH.trans hW0 hW
  have hcl : s.vm.findClass cls = some ce.cls := by
    have h9 := hO.cls
    rw [hvm] at h9
    exact h9
  have hall : s.sameButNew ({ U with vm := s.vm } : State) locs mc ms := by
    subst hA
    obtain ⟨e1, e2⟩ := hsame
    rw [State.setFrames_setFrames] at e1
    have h2 : (T.setVm s.vm).sameButNew ({ U with vm := s.vm } : State) [] (0 + 1) (0 + 6) := ⟨e1, e2⟩
    have h3 := X.same.trans h2
    rw [List.append_nil] at h3
    exact h3.mono hc hs
  refine ⟨U, ?_, .threw T.heap.size, hrun, hend, Or.inr ⟨T.heap.size, rfl, cls, ce, locs, hx U hWs.alike f1 (fun q hq => f2 q hq (fun z hz => nomatch hz)), hce, hO.vm, hcl, hWs, hall, hf⟩⟩
  refine st1 _ ?_
  show Steps p.tables e below (T1.setTop { method := m, pc := pc + 3, locals := ls, stack := .ref T.heap.size :: rest, locked := none }) _
  jvm_step X₁.here [X₁.here.top, hexec, d3', Value.category]
  exact X₁.ldcString hexec (own := own) (text := text) (index := is) (a := sa) hown' hstr'.1 hstr'.2
    (g := { method := m, pc := pc + 4, locals := ls, stack := .ref T.heap.size :: .ref T.heap.size :: rest, locked := none }) rfl d4' _ hsteps
/-- 'throw new E("text")', the text by a wide index -/
theorem vx_throwSW {cc : ByteArray} {pc : Nat} (hexec : p.tables.exec = Jvm.exec) (hb : c.code = cc) (hl : l.stackTraces = false) {own cls text : String} {names : List String} {ik is ic mc ms sa : Nat} {A : Nat → Prop}
    (hown : s.vm.findClass own = some m.cls) (hcls : Bundle.fit cls = true) (hnames : ∀ n ∈ names, Bundle.fit n = true)
    (hk : (Cond.classLink own ik cls).before args s = true) (hini : (Cond.initialized cls).before args s = true) (hstr : vk_R own is text sa s) (hat : ∀ w ∈ vx_atS own ic cls names, w.before args s = true)
    (hgood : ∀ w ∈ Cond.classLink own ik cls :: Cond.initialized cls :: vx_atS own ic cls names, vx_ot w = true)
    (hU : vx_Zq Bundle.tN "UNASSIGNED_STACK" Bundle.steD A s s.heap) (hN : vx_Zq Bundle.tN "SUPPRESSED_SENTINEL" Bundle.listD A s s.heap) (hS : va_S A s.heap H locs) (hsize : ls.size = c.maxLocals)
    (d0 : decode cc pc = .ok (.new ik, 3)) (d3 : decode cc (pc + 3) = .ok (.dup, 1)) (d4 : decode cc (pc + 4) = .ok (.ldc_w is, 3)) (d7 : decode cc (pc + 7) = .ok (.invokespecial ic, 3)) (d10 : decode cc (pc + 10) = .ok (.athrow, 1))
    (hout : ∀ x ∈ c.exceptionTable.toList, covers x (pc + 10) = false)
    (hRframes : names.length + 3 < R.frames) (hRlocals : (rest.map fun v => v.category).sum + (13 * (names.length + 1) + 43) ≤ R.locals) (hRcells : cells + 1 ≤ R.cells) (hRslots : slots + 6 ≤ R.slots) (hlocks : meth.locks = false)
    (hx : ∀ t : State, s.vm.Alike t.vm → H.size ≤ t.heap.size → (∀ q : Nat, q < H.size → t.heap[q]? = H[q]?) → XC cls s t)
    (hf : ∀ z ∈ locs, free z.base) (hc : cells + 1 ≤ mc) (hs : slots + 6 ≤ ms) :
    W p l e R s m args below meth c H locs cells slots (vx_MQ below Qc XC args s mc ms free) (F0 m pc ls rest) := by
  intro T hT X
  have htr : e.platform.stackTraces = false := (show e.platform.stackTraces = l.stackTraces by rw [X.admits.platform]).trans hl
  have Y := vx_rebase X (R' := { frames := R.frames, locals := R.locals, cells := 1, slots := 6 }) (Nat.le_refl _) (Nat.le_refl _) hRcells hRslots
  obtain ⟨s', hA⟩ : ∃ z, z = (T.setVm s.vm).setFrames (.invoking m args :: below) := ⟨_, rfl⟩
  rw [← hA] at Y
  have hvm : s'.vm = s.vm := by rw [hA]; rfl
  have hhp : s'.heap = H := by rw [hA]; exact hT
  have hW0 : s.WarmedH s'.vm := by rw [hvm]; exact State.WarmedH.refl s
  have hat' : ∀ w ∈ vx_atS own ic cls names, w.before args s' = true := fun w hw => vx_ot_at hW0 hvm.symm (hgood w (List.mem_cons_of_mem _ (List.mem_cons_of_mem _ hw))) (hat w hw)
  have hk' : (Cond.classLink own ik cls).before args s' = true := vx_ot_at hW0 hvm.symm (hgood _ List.mem_cons_self) hk
  have hini' : (Cond.initialized cls).before args s' = true := vx_ot_at hW0 hvm.symm (hgood _ (List.mem_cons_of_mem _ List.mem_cons_self)) hini
  have hU' : vx_Zq Bundle.tN "UNASSIGNED_STACK" Bundle.steD A s' s'.heap := by rw [hhp]; exact vx_Zq.moved hW0.alike (hU.kept hS.2.1)
  have hN' : vx_Zq Bundle.tN "SUPPRESSED_SENTINEL" Bundle.listD A s' s'.heap := by rw [hhp]; exact vx_Zq.moved hW0.alike (hN.kept hS.2.1)
  have h : ∀ w ∈ Bundle.ownAtoms own ic cls names, w.before args s' = true := vx_own hat' (vx_isRefq hU'.1) (vx_isRefq hN'.1) hU'.2.word hN'.2.word
  have hown' : s'.vm.findClass own = some m.cls := by rw [hvm]; exact hown
  have hins : (Cond.instantiable cls 6).before args s' = true := h _ (by simp [Bundle.ownAtoms])
  obtain ⟨vm₁, cX, kX, hfX, hkX, -, -, X₁, st1⟩ := Y.newCold hexec (own := own) (C := cls) (index := ik) (n := 6) hown' hk' hins hini'
    (g := F0 m pc ls rest) rfl (by rw [hb]; exact d0) (Nat.le_refl _) (Nat.le_refl _)
  generalize hT1 : (T.setVm vm₁).pushCell { cls := cX, slots := kX.instanceTypes.map defaultValue, vm := .none } = T1 at X₁ st1
  have hcat : (Value.ref T.heap.size).category = 1 := rfl
  have hcellA : T1.heap[T.heap.size]? = some (freshCell cX kX) := by rw [← hT1]; exact State.heap_pushCell_size _ _
  have d3' : decode c.code (pc + 3) = .ok (.dup, 1) := by rw [hb]; exact d3
  have d4' : decode c.code (pc + 4) = .ok (.ldc_w is, 3) := by rw [hb]; exact d4
  have hstr' : vk_R own is text sa s' := vk_R.warm hW0 hstr
  obtain ⟨U, hsteps, hrun, hend, hW, hsame, ce, hce, hO⟩ := X₁.ctorThrowS hexec htr (own := own) (cls := cls) (names := names) (ic := ic) hown' hcls hnames h (fun x hx => nomatch hx) hfX hkX hcellA (by rw [hhp, hT]; exact Nat.le_refl _) (msg := .ref sa) rfl
    (g := { method := m, pc := pc + 7, locals := ls, stack := .ref sa :: .ref T.heap.size :: .ref T.heap.size :: rest, locked := none }) rfl hsize rfl rfl (rest := rest) rfl
    (by rw [hb]; exact d7) (by rw [hb]; exact d10) hout hRframes (by simp only [List.map_cons, List.sum_cons, hcat]; omega) hlocks
  obtain ⟨f1, f2⟩ := vx_frame hsame
  rw [hhp] at f1 f2
  have hWs : s.WarmedH U.vm := State.WarmedH.trans hW0 hW
  have hcl : s.vm.findClass cls = some ce.cls := by
    have h9 := hO.cls
    rw [hvm] at h9
    exact h9
  have hall : s.sameButNew ({ U with vm := s.vm } : State) locs mc ms := by
    subst hA
    obtain ⟨e1, e2⟩ := hsame
    rw [State.setFrames_setFrames] at e1
    have h2 : (T.setVm s.vm).sameButNew ({ U with vm := s.vm } : State) [] (0 + 1) (0 + 6) := ⟨e1, e2⟩
    have h3 := X.same.trans h2
    rw [List.append_nil] at h3
    exact h3.mono hc hs
  refine ⟨U, ?_, .threw T.heap.size, hrun, hend, Or.inr ⟨T.heap.size, rfl, cls, ce, locs, hx U hWs.alike f1 (fun q hq => f2 q hq (fun z hz => nomatch hz)), hce, hO.vm, hcl, hWs, hall, hf⟩⟩
  refine st1 _ ?_
  show Steps p.tables e below (T1.setTop { method := m, pc := pc + 3, locals := ls, stack := .ref T.heap.size :: rest, locked := none }) _
  jvm_step X₁.here [X₁.here.top, hexec, d3', Value.category]
  exact X₁.ldcStringW hexec (own := own) (text := text) (index := is) (a := sa) hown' hstr'.1 hstr'.2
    (g := { method := m, pc := pc + 4, locals := ls, stack := .ref T.heap.size :: .ref T.heap.size :: rest, locked := none }) rfl d4' _ hsteps
end Ends
section Bodies
variable {l : Launch}
theorem vx_ofW {y : MethodName} {ws ws' : List Cond} {rm : Room} {Pc : Array Value → State → Prop} {Qc : Array Value → State → Outcome → State → Prop} {XC : String → State → State → Prop} {mc ms : Nat} {free : Addr → Prop} {cc : ByteArray} {maxL : Nat} {ret : Option FieldType}
    (hy : plainName y.cls = true) (hw : ws = Cond.code y cc maxL ret :: ws')
    (body : ∀ p e s m args below meth c s₁, BodyLoose p l y (headSpec ws rm) cc maxL ret e s m args below meth c s₁ → c.maxLocals = maxL → (∀ x ∈ c.exceptionTable.toList, False) → Pc args s →
      W p l e (headSpec ws rm).room s m args below meth c s.heap [] 0 0 (vx_MQ below Qc XC args s mc ms free) (entryFrame m args maxL)) : vx_Met l y ws rm Pc Qc XC mc ms free := by
  refine MetFree.of_bodyS (code := cc) (maxLocals := maxL) (ret := ret) hy ?_ ?_
  · intro args s m h hn
    obtain ⟨meth, c, h1, h2, h3, h4, h5, h6, -, -⟩ := Cond.code_spec hn (atoms_spec (ws := ws) h _ (by rw [hw]; exact List.mem_cons_self))
    exact ⟨meth, c, h1, h2, h3, h4, h5, h6⟩
  · intro p e s m args below meth c s₁ B hml hP _
    have hh0 : s₁.heap = s.heap := by rw [B.state]; rfl
    have ht : ∀ x ∈ c.exceptionTable.toList, False := by
      obtain ⟨meth9, c9, h1, h2, -, -, -, -, h7, -⟩ := Cond.code_spec B.named (atoms_spec (ws := ws) B.pre _ (by rw [hw]; exact List.mem_cons_self))
      cases Option.some.inj (h1.symm.trans B.method)
      cases Option.some.inj (h2.symm.trans (Stand.of_body B).code)
      intro x hx
      rw [Array.isEmpty_iff.mp h7] at hx
      cases hx
    obtain ⟨t, a1, o, b1, b2, b3⟩ := body p e s m args below meth c s₁ B hml ht hP s₁ hh0 (Stand.of_body B)
    exact ⟨t, o, a1, b1, b2, b3⟩
/-- the table of a body with handlers -/
theorem vx_table {p : Program} {x y : MethodName} {S : Spec} {cc bytes : ByteArray} {maxL maxL' : Nat} {ret ret' : Option FieldType} {e : Env} {s s₁ : State} {m : MethodId} {args : Array Value} {below : List Frame} {meth : Method} {c : Code} {hh : List (Nat × Nat × Nat × Nat)}
    (B : BodyLoose p l y S cc maxL ret e s m args below meth c s₁) (h : (Cond.codeWith y bytes maxL' ret' hh).before args s = true) : c.exceptionTable.toList = tableOf hh := by
  obtain ⟨m9, meth9, c9, hn9, h1, h2, -, -, h6, -⟩ := Cond.codeWith_spec h
  cases Option.some.inj (hn9.symm.trans B.named)
  cases Option.some.inj (h1.symm.trans B.method)
  cases Option.some.inj (h2.symm.trans (Stand.of_body B).code)
  rw [← h6, table_eq]
end Bodies
end VXA
/-! ===== END ===== -/
/-! ===== BEGIN a static call of a method with an exception table ===== -/
section VXS
variable {p : Program} {l : Launch} {e : Env} {R : Room} {s : State} {m : MethodId} {args : Array Value} {below : List Frame} {meth : Method} {c : Code} {T : State} {H : Heap} {locs : List Loc} {cells slots : Nat}
abbrev vx_CSW (R : Room) (s : State) (args : Array Value) (own : String) (index : Nat) (y : MethodName) (bytes : ByteArray) (maxL : Nat) (ret : Option FieldType) (hh : List (Nat × Nat × Nat × Nat)) (ws : List Cond) (rm : Room) (mc ms n : Nat) : Prop :=
  (rm.cells = mc ∧ rm.slots = ms ∧ rm.frames + 1 ≤ R.frames ∧ 8 + (maxL + 11) + rm.locals ≤ R.locals ∧ (∀ w ∈ ws, ∀ (a' : Array Value) (U : State), s.WarmedH U.vm → w.before a' U = true) ∧ Cond.codeWith y bytes maxL ret hh ∈ ws) ∧
  (Cond.codeWith y bytes maxL ret hh).before args s = true ∧ (Cond.initialized y.cls).before args s = true ∧ (y.cls ≠ "java/lang/invoke/MethodHandle" ∧ y.cls ≠ "java/lang/invoke/VarHandle") ∧
  (∀ sig, parseMethodDescriptor y.desc = some sig → n = sig.parameters.length) ∧ (Cond.methodLink own index y).before args s = true ∧ (Cond.static y).before args s = true
theorem vx_cwSW {own : String} {index maxL mc ms : Nat} {y : MethodName} {bytes : ByteArray} {ret : Option FieldType} {hh : List (Nat × Nat × Nat × Nat)} {Ts ws ws' : List Cond} {rm : Room} (n : Nat) (ht : ∀ w ∈ Ts, w.before args s = true) (hT : GoodIn Ts (va_wsS own index y ws)) (hw : ws = Cond.codeWith y bytes maxL ret hh :: ws') (hrc : rm.cells = mc) (hrs : rm.slots = ms)
    (hd : y.cls ≠ "java/lang/invoke/MethodHandle" ∧ y.cls ≠ "java/lang/invoke/VarHandle" ∧ (parseMethodDescriptor y.desc).map (fun d => d.parameters.length) = some n) (hR : rm.frames + 1 ≤ R.frames ∧ 8 + (maxL + 11) + rm.locals ≤ R.locals) :
    vx_CSW R s args own index y bytes maxL ret hh ws rm mc ms n := by
  have ok : ∀ w ∈ va_wsS own index y ws, w.before args s = true := fun w h => ht w (hT w h).1
  have hG : GoodIn Ts ws := fun w h => hT w (by unfold va_wsS; exact List.mem_append_right _ h)
  have hc : Cond.codeWith y bytes maxL ret hh ∈ ws := by rw [hw]; exact List.mem_cons_self
  refine ⟨⟨hrc, hrs, hR.1, hR.2, pay_in ht hG, hc⟩, ht _ (hG _ hc).1, ok _ (by simp [va_wsS]), ⟨hd.1, hd.2.1⟩, fun sig h => ?_, ok _ (by simp [va_wsS]), ok _ (by simp [va_wsS])⟩
  have h2 := hd.2.2
  rw [h] at h2
  exact (Option.some.inj h2).symm
theorem vx_callSW (X : Stand p l e R s m args below meth c T locs cells slots) (hexec : p.tables.exec = Jvm.exec) {own : String} {index : Nat} {y : MethodName} {bytes : ByteArray} {maxL : Nat} {ret : Option FieldType} {hh : List (Nat × Nat × Nat × Nat)}
    (hown : s.vm.findClass own = some m.cls) (hlink : (Cond.methodLink own index y).before args s = true) (hstat : (Cond.static y).before args s = true) (hinit : (Cond.initialized y.cls).before args s = true)
    (hcode : (Cond.codeWith y bytes maxL ret hh).before args s = true) (hy : y.cls ≠ "java/lang/invoke/MethodHandle" ∧ y.cls ≠ "java/lang/invoke/VarHandle")
    {W9 : Nat} {Pre : Pt → Array Value → Prop} {Post : Pt → Array Value → Option Value → Pt → Prop} (hK : Back l R p e below s args y 3 W9 Pre Post)
    {g : JFrame} (hg : g.method = m) (hsize : g.locals.size = c.maxLocals) {argsL rest : List Value} (hlen : ∀ sig, parseMethodDescriptor y.desc = some sig → argsL.length = sig.parameters.length)
    (hstack : g.stack = argsL.reverse ++ rest) (hW : 2 * g.monitorRoom + (rest.map fun v => v.category).sum ≤ W9) (hdg : decode c.code g.pc = .ok (.invokestatic index, 3))
    (hpre : ∀ vm₁, s.WarmedH vm₁ → Pre ⟨T.setVm vm₁, locs, cells, slots⟩ argsL.toArray) :
    ∃ (v : Option Value) (vm₁ : Vm) (B : Pt), s.WarmedH vm₁ ∧ Stand p l e R s m args below meth c B.U B.locs B.cells B.slots ∧ Post ⟨T.setVm vm₁, locs, cells, slots⟩ argsL.toArray v B ∧
      ∀ target, Steps p.tables e below (B.U.setTop { g with pc := g.pc + 3, stack := v.toList ++ rest }) target → Steps p.tables e below (T.setTop g) target := by
  obtain ⟨mk, methM, cM, hnamed, hmethM, -, -, -, -, -, -, hsigM⟩ := Cond.codeWith_spec hcode
  have hstatic : methM.isStatic = true := Cond.static_spec hnamed hmethM hstat
  obtain ⟨kP, hkP, -⟩ := className_of_methodNamed hnamed
  have hinitP : kP.init = .initialized := Cond.initialized_spec (findClass_of_methodNamed hnamed) hkP hinit
  obtain ⟨vm₁, X₁, hstep₁⟩ := X.invokestatic hexec hown hlink hnamed hmethM hstatic hkP hinitP hy (g := g) hg (argsL := argsL) (rest := rest) (hlen _ hsigM) hstack hdg
  obtain ⟨v, B, X', hpost, hsteps⟩ := hK m meth c ⟨T.setVm vm₁, locs, cells, slots⟩ { g with stack := rest } (.invokestatic index) mk argsL.toArray X₁ hg hsize hdg hW (X₁.named hnamed) (hpre vm₁ X₁.warmed)
  exact ⟨v, vm₁, B, X₁.warmed, X', hpost, fun target h => hstep₁ _ fun acts => by rw [doInvoke_state]; exact hsteps.trans h⟩
theorem vx_runSW {y : MethodName} {bytes cc : ByteArray} {maxL nL mc ms n index : Nat} {ret : Option FieldType} {hh : List (Nat × Nat × Nat × Nat)} {ws : List Cond} {rm : Room} {Pc : Array Value → State → Prop} {Qc : Array Value → State → Outcome → State → Prop} {free : Addr → Prop} {Ts : List Cond} {own : String} {As rest : List Value} {g : JFrame}
    (S : CallFix p m c cc nL s args Ts own) (hM : Met l y ws rm Pc Qc mc ms free) (cw : vx_CSW R s args own index y bytes maxL ret hh ws rm mc ms n) (hp : PreS s H Pc As)
    (hg : g.method = m) (hn : As.length = n) (hsize : g.locals.size = nL) (hstack : g.stack = As.reverse ++ rest) (hW : 2 * g.monitorRoom + (rest.map fun v => v.category).sum ≤ 8) (hdg : decode cc g.pc = .ok (.invokestatic index, 3)) (hf : cells + mc ≤ R.cells ∧ slots + ms ≤ R.slots) :
    va_Run p l e R s m args below meth c H locs cells slots mc ms g rest (Qc As.toArray) (free) := by
  obtain ⟨⟨hrc, hrs, hfr, hlo, hws, hcw⟩, hcode, hini, hy, hlen, hl, hstt⟩ := cw
  have hK : Back l R p e below s args y 3 8 (PreOf R mc ms Pc) (PostOf Qc mc ms free) := va_backW (hh := hh) (bytes := bytes) (maxL := maxL) (ret := ret) hM hp.1 hrc hrs hfr hlo hws hcw (fun a' U hW => word_at hW (Or.inl (by first | rfl | simp [Cond.onTables, Cond.keeps, Cond.steady])) hini)
  obtain ⟨hx, hb, hml, ho, -⟩ := S
  intro T hT X
  obtain ⟨v, vm₁, ⟨U', l2, c2, s2⟩, hW₁, X', ⟨g', mk, t, L, e1, e2, hq, h1, hL, h2, h3⟩, st⟩ := vx_callSW X hx (hh := hh) (bytes := bytes) (maxL := maxL) (ret := ret) ho hl hstt hini hcode hy hK hg (hsize.trans hml.symm) (argsL := As) (rest := rest) (fun sig h => hn.trans (hlen sig h)) hstack hW (by rw [hb]; exact hdg)
    (fun vm₁ hW₁ => ⟨hf.1, hf.2, hp.2 (T.setVm vm₁) hT hW₁⟩)
  dsimp only [Pt.U, Pt.locs, Pt.cells, Pt.slots] at X' e1 e2 h1 h2 h3 st
  subst h1; subst h2; subst h3
  exact ⟨v, (T.setVm vm₁).calling g' mk As.toArray, t, U', L, hT, X', hL, e1, e2, hq, st⟩
/-- not caught here, past rows that name other classes: it goes on to the caller -/
theorem vx_outP {p : Program} {l : Launch} {e : Env} {R : Room} {s : State} {m : MethodId} {args : Array Value} {below : List Frame} {meth : Method} {c : Code} {H : Heap} {locs : List Loc} {cells slots : Nat} {free : Addr → Prop} {ls : Array Slot} {rest : List Value} {Qc : Array Value → State → Outcome → State → Prop} {XC : String → State → State → Prop}
    {pc : Nat} {own E : String} {ce : Cell} {q : Addr} {mc ms : Nat} (hown : s.vm.findClass own = some m.cls) (hlocks : meth.locks = false)
    (hpass : ∀ z ∈ c.exceptionTable.toList, covers z pc = false ∨ (z.catchType ≠ 0 ∧ ∃ nm : String, (Cond.classLink own z.catchType nm).before args s = true ∧ va_Nc E nm s)) (hcell : H[q]? = some ce) (hv : ce.vm = .none) (hcl : s.vm.findClass E = some ce.cls)
    (hx : ∀ t : State, t.heap = H → s.vm.Alike t.vm → XC E s t) (hf : ∀ z ∈ locs, free z.base) (hc : cells ≤ mc) (hs : slots ≤ ms) :
    vx_W p l e R s m args below meth c H locs cells slots (vx_MQ below Qc XC args s mc ms free) (F0 m pc ls rest) q := by
  intro T hT X
  have hpl : e.platform.magicAccessors = ({} : Platform).magicAccessors := by rw [X.admits.platform]
  obtain ⟨vm', hW', X', st⟩ := X.outThrough hlocks q (g := F0 m pc ls rest) rfl rfl rfl (cell := ce) (by rw [hT]; exact hcell) (by rw [hv]; rfl)
    (by obtain ⟨k9, h9, -⟩ := Vm.findClass_spec hcl; exact ⟨k9, h9⟩) (fun z hz => by
      rcases hpass z hz with h | ⟨hz0, nm, hl1, hn1⟩
      · exact Or.inl h
      · obtain ⟨c6, hc6, hcl6⟩ := Cond.classLink_spec hown hl1 e.platform hpl
        obtain ⟨a8, b8, h1, h2, h3⟩ := hn1
        cases Option.some.inj (h1.symm.trans hcl)
        cases Option.some.inj (h2.symm.trans hc6)
        exact Or.inr ⟨hz0, _, hcl6, h3⟩)
  obtain ⟨g₀, hfr⟩ := X'.frames_eq
  have hcell9 : ((T.setVm vm').setFrames (.throwing q :: below)).heap[q]? = some ce := by
    show T.heap[q]? = some ce
    rw [hT]; exact hcell
  have hend : Ended ((T.setVm vm').setFrames (.throwing q :: below)) below (.threw q) := State.frames_setFrames _ (State.cur_lt_of_frames hfr)
  refine ⟨(T.setVm vm').setFrames (.throwing q :: below), ?_, .threw q, X'.here.running, hend, Or.inr ⟨q, rfl, E, ce, locs, hx _ hT (X'.ends _).1.alike, hcell9, hv, hcl, (X'.ends _).1, (X'.ends _).2.mono hc hs, hf⟩⟩
  rw [X.pushThrowing_eq]
  exact st
/-- a thing of a world lies in the heap -/
theorem vx_lt {D : va_G} {cl : List vw_C} {ws : va_W} {H1 : Heap} (h : va_P D cl ws H1) {k : Nat} {q : Nat × va_E} (hk : ws[k]? = some q) : q.1 < H1.size := (h k q hk).lt
end VXS
/-! ===== END ===== -/
/-! ===== BEGIN methods with a table of their own: called by a name, returning or throwing ===== -/
section VXH
/-! vx_backW, vx_callVX, vx_callSX, vx_callVW, vx_runVW, vx_runVX, vx_runSX, vx_ofWH follow the same proofs as their sisters above (Free/Laws.lean, Shelf42/LK1.lean); vx_outP calls Shelf42/NT130.lean (outThrough). -/
section
variable {l : Launch} {R : Room} {p : Program} {e : Env} {below : List Frame} {s : State} {sargs : Array Value} {y : MethodName} {len W9 : Nat}
theorem vx_backW {ws : List Cond} {rm : Room} {Pc : Array Value → State → Prop} {Qc : Array Value → State → Outcome → State → Prop} {XC : String → State → State → Prop} {mc ms : Nat} {free : Addr → Prop} {bytes : ByteArray} {maxL : Nat} {ret : Option FieldType} {hh : List (Nat × Nat × Nat × Nat)}
    (hM : vx_Met l y ws rm Pc Qc XC mc ms free) (hblind : FrameBlind Pc) (hrc : rm.cells = mc) (hrs : rm.slots = ms)
    (hframes : rm.frames + 1 ≤ R.frames) (hlocals : W9 + (maxL + 11) + rm.locals ≤ R.locals)
    (hws : ∀ w ∈ ws, ∀ a' U, s.WarmedH U.vm → w.before a' U = true) (hcode : Cond.codeWith y bytes maxL ret hh ∈ ws) (hinit : ∀ a' U, s.WarmedH U.vm → (Cond.initialized y.cls).before a' U = true) :
    vx_Back l R p e below s sargs y len W9 (PreOf R mc ms Pc) (PostOf Qc mc ms free) (vx_Post XC mc ms free) := by
  intro m meth c A g ig mk a X hg hsize hdg hW hn hp
  have h1 : (headSpec ws rm).pre.before a A.U = true := atoms_intro fun w hw => hws w hw _ _ X.warmed
  have h2 : (Cond.codeWith y bytes maxL ret hh).before a A.U = true := hws _ hcode _ _ X.warmed
  have h3 : (Cond.initialized y.cls).before a A.U = true := hinit _ _ X.warmed
  have h4 : A.cells + (headSpec ws rm).room.cells ≤ R.cells := by rw [show (headSpec ws rm).room.cells = mc from hrc]; exact hp.1
  have h5 : A.slots + (headSpec ws rm).room.slots ≤ R.slots := by rw [show (headSpec ws rm).room.slots = ms from hrs]; exact hp.2.1
  have hPc : Pc a (A.U.calling g mk a) := hblind _ _ _ _ hp.2.2
  obtain ⟨U, Ls, c0, s0⟩ := A
  dsimp only [Pt.U, Pt.locs, Pt.cells, Pt.slots] at h1 h2 h3 h4 h5 X hn hPc ⊢
  obtain ⟨m9, methY, cY, hn9, hmY, hcY, -, hlY, -⟩ := Cond.codeWith_spec h2
  cases Option.some.inj (hn9.symm.trans hn)
  obtain ⟨kY, hkY, -⟩ := className_of_methodNamed hn
  have hinitY : kY.init = .initialized := Cond.initialized_spec (findClass_of_methodNamed hn) hkY h3
  have h : At U g.method c below := by rw [hg]; exact X.here
  have hlocals9 : W9 + (maxL + 11) + (headSpec ws rm).room.locals ≤ R.locals := hlocals
  have happ : (headSpec ws rm).appliesLoose y e.platform (U.calling g mk a) = true :=
    Spec.appliesLoose_calling (g := g) h hdg hn hkY hinitY
      (X.room_calling (g := g) (R' := (headSpec ws rm).room) hsize hmY hcY hframes (by rw [hlY]; omega) h4 h5) h1
  obtain ⟨mid, hmid⟩ := h.above
  have hfr : (U.setTop g).frames = (.java g :: mid) ++ below := by rw [State.frames_setTop' g h.top, hmid]; rfl
  obtain ⟨o, s₂, hsteps, -, hend, hq⟩ := Steps.callFree hM p X.admits X.cas X.clock (acts := []) hfr happ hPc trivial
  have hq' : vx_Q Qc XC mc ms free a (U.calling g mk a) o s₂ := hq
  rw [State.frames_setTop' g h.top] at hend
  obtain ⟨g₀, hg0⟩ := Option.isSome_iff_exists.mp h.top
  obtain ⟨r, hr⟩ := State.topJava?_eq_some.mp hg0
  have hr' : (({ U with heap := s₂.heap, slotsUsed := s₂.slotsUsed } : State).setVm s₂.vm).frames = .java g₀ :: r := hr
  rcases hq' with ⟨hqc, L, hfe, hL⟩ | ⟨q, rfl, E, ce, L, hx, hce, hcv, hcl, hW₂, hsm, hL⟩
  · obtain ⟨⟨v, rfl⟩, hW₂, e2, q2, q3, q4, q5, q6⟩ := id hfe
    have e3 : s₂ = ({ (U.calling g mk a).setFrames s₂.frames with heap := s₂.heap, slotsUsed := s₂.slotsUsed } : State).setVm s₂.vm := by
      have : s₂ = ({ s₂ with vm := (U.calling g mk a).vm } : State).setVm s₂.vm := rfl
      rw [e2] at this
      exact this
    obtain ⟨c₂, i₂, len₂, hc₂, hd₂, hf₂⟩ := hend
    have hW' : U.WarmedH s₂.vm := hW₂
    have hcc : c₂ = c := by
      have h1 : s₂.code? g.method = U.code? g.method := by
        rw [State.code?_eq, State.code?_eq, hW'.alike.method?]
      exact Option.some.inj (hc₂.symm.trans (h1.trans h.code))
    subst hcc
    have hlen : len₂ = len := by rw [hdg] at hd₂; cases hd₂; rfl
    subst hlen
    have hs₂ : s₂ = (({ U with heap := s₂.heap, slotsUsed := s₂.slotsUsed } : State).setVm s₂.vm).setTop { g with pc := g.pc + len₂, stack := v.toList ++ g.stack } := by
      refine e3.trans ?_
      rw [hf₂, State.calling_eq h.top, State.setFrames_setFrames, State.setTop_of_frames _ hr', hr]
      rfl
    have hsame : U.sameButNew ({ U with heap := s₂.heap, slotsUsed := s₂.slotsUsed } : State) L mc ms := by
      refine ⟨?_, q2, q3, q4, q5, q6⟩
      obtain ⟨t, ht, -⟩ := State.frames_cons hr
      show ({ U with heap := s₂.heap, slotsUsed := s₂.slotsUsed } : State) = { U.setFrames U.frames with heap := s₂.heap, slotsUsed := s₂.slotsUsed }
      rw [State.setFrames_self ht]
    subst hg
    refine Or.inl ⟨v, ⟨(({ U with heap := s₂.heap, slotsUsed := s₂.slotsUsed } : State).setVm s₂.vm), Ls ++ L, c0 + mc, s0 + ms⟩,
      ⟨X.admits, X.cas, X.clock, X.frames, X.room, X.hears, X.method, X.code, (X.here.setHeapUsed s₂.heap s₂.slotsUsed).setVm hW'.alike, X.tail, State.WarmedH.trans X.warmed hW', X.limits, X.bytes, X.same.trans (hsame.setVm s.vm)⟩,
      ⟨g, mk, s₂, L, rfl, rfl, hqc, rfl, hL, rfl, rfl⟩, ?_⟩
    show Steps p.tables e below _ ((({ U with heap := s₂.heap, slotsUsed := s₂.slotsUsed } : State).setVm s₂.vm).setTop { g with pc := g.pc + len₂, stack := v.toList ++ g.stack })
    rw [← hs₂]
    exact hsteps
  · obtain ⟨e2, q2, q3, q4, q5, q6⟩ := id hsm
    have e3 : s₂ = ({ (U.calling g mk a).setFrames s₂.frames with heap := s₂.heap, slotsUsed := s₂.slotsUsed } : State).setVm s₂.vm := by
      have : s₂ = ({ s₂ with vm := (U.calling g mk a).vm } : State).setVm s₂.vm := rfl
      rw [e2] at this
      exact this
    have hf₂ : s₂.frames = .throwing q :: .java g :: U.frames.tail := hend
    have hW' : U.WarmedH s₂.vm := hW₂
    have hs₂ : s₂ = ((({ U with heap := s₂.heap, slotsUsed := s₂.slotsUsed } : State).setVm s₂.vm).setTop g).pushFrame (.throwing q) := by
      refine e3.trans ?_
      rw [hf₂, State.calling_eq h.top, State.setFrames_setFrames, State.pushFrame, State.frames_setTop _ hr', State.setTop_of_frames _ hr', State.setFrames_setFrames, hr]
      rfl
    have hsame : U.sameButNew ({ U with heap := s₂.heap, slotsUsed := s₂.slotsUsed } : State) L mc ms := by
      refine ⟨?_, q2, q3, q4, q5, q6⟩
      obtain ⟨t, ht, -⟩ := State.frames_cons hr
      show ({ U with heap := s₂.heap, slotsUsed := s₂.slotsUsed } : State) = { U.setFrames U.frames with heap := s₂.heap, slotsUsed := s₂.slotsUsed }
      rw [State.setFrames_self ht]
    subst hg
    refine Or.inr ⟨q, ⟨(({ U with heap := s₂.heap, slotsUsed := s₂.slotsUsed } : State).setVm s₂.vm), Ls ++ L, c0 + mc, s0 + ms⟩,
      ⟨X.admits, X.cas, X.clock, X.frames, X.room, X.hears, X.method, X.code, (X.here.setHeapUsed s₂.heap s₂.slotsUsed).setVm hW'.alike, X.tail, State.WarmedH.trans X.warmed hW', X.limits, X.bytes, X.same.trans (hsame.setVm s.vm)⟩,
      ⟨g, mk, s₂, L, E, ce, rfl, rfl, hx, hce, hcv, hcl, rfl, hL, rfl, rfl⟩, ?_⟩
    show Steps p.tables e below _ (((({ U with heap := s₂.heap, slotsUsed := s₂.slotsUsed } : State).setVm s₂.vm).setTop g).pushFrame (.throwing q))
    rw [← hs₂]
    exact hsteps
end
variable {p : Program} {l : Launch} {e : Env} {R : Room} {s : State} {m : MethodId} {args : Array Value} {below : List Frame} {meth : Method} {c : Code} {T : State} {H : Heap} {locs : List Loc} {cells slots : Nat}
theorem vx_callVX (X : Stand p l e R s m args below meth c T locs cells slots) (hexec : p.tables.exec = Jvm.exec) {own C : String} {index : Nat} {y : MethodName} {bytes : ByteArray} {maxL : Nat} {ret : Option FieldType} {hh : List (Nat × Nat × Nat × Nat)}
    (hown : s.vm.findClass own = some m.cls) (hlink : (Cond.methodLink own index y).before args s = true) (hinst : (Cond.instanceMethod y).before args s = true) (hsel : (Cond.selects C y y).before args s = true)
    (hcode : (Cond.codeWith y bytes maxL ret hh).before args s = true) (hy : y.cls ≠ "java/lang/invoke/MethodHandle" ∧ y.cls ≠ "java/lang/invoke/VarHandle")
    {W9 : Nat} {Pre : Pt → Array Value → Prop} {Post : Pt → Array Value → Option Value → Pt → Prop} {PostX : Pt → Array Value → Addr → Pt → Prop} (hK : vx_Back l R p e below s args y 3 W9 Pre Post PostX)
    {b : Addr} {cellB : Cell} (hcell : T.heap[b]? = some cellB) (hobj : cellB.vm.isStatics = false) (hcls : s.vm.findClass C = some cellB.cls)
    {g : JFrame} (hg : g.method = m) (hsize : g.locals.size = c.maxLocals) {argsL rest : List Value} (hlen : ∀ sig, parseMethodDescriptor y.desc = some sig → argsL.length = sig.parameters.length)
    (hstack : g.stack = argsL.reverse ++ .ref b :: rest) (hW : 2 * g.monitorRoom + (rest.map fun v => v.category).sum ≤ W9) (hdg : decode c.code g.pc = .ok (.invokevirtual index, 3))
    (hpre : ∀ vm₁, s.WarmedH vm₁ → Pre ⟨T.setVm vm₁, locs, cells, slots⟩ (Value.ref b :: argsL).toArray) :
    (∃ (v : Option Value) (vm₁ : Vm) (B : Pt), s.WarmedH vm₁ ∧ Stand p l e R s m args below meth c B.U B.locs B.cells B.slots ∧ Post ⟨T.setVm vm₁, locs, cells, slots⟩ (Value.ref b :: argsL).toArray v B ∧
      ∀ target, Steps p.tables e below (B.U.setTop { g with pc := g.pc + 3, stack := v.toList ++ rest }) target → Steps p.tables e below (T.setTop g) target) ∨
    (∃ (q : Addr) (vm₁ : Vm) (B : Pt), s.WarmedH vm₁ ∧ Stand p l e R s m args below meth c B.U B.locs B.cells B.slots ∧ PostX ⟨T.setVm vm₁, locs, cells, slots⟩ (Value.ref b :: argsL).toArray q B ∧
      Steps p.tables e below (T.setTop g) ((B.U.setTop { g with stack := rest }).pushFrame (.throwing q))) := by
  obtain ⟨mk, methM, hnamed, hmethM, hstM, habM⟩ := Cond.instanceMethod_spec hinst
  obtain ⟨m8, methM', cM, hn8, hmethM', -, -, -, -, -, -, hsigM⟩ := Cond.codeWith_spec hcode
  cases Option.some.inj (hn8.symm.trans hnamed)
  cases hmethM.symm.trans hmethM'
  obtain ⟨c2, r2, m2, q1, q2, q3, q4, kP, hkP, hkPi⟩ := Cond.selects_spec hsel
  cases hcls.symm.trans q1
  cases (State.methodFound?_of_named hnamed hy).symm.trans q2
  cases hnamed.symm.trans q3
  have hselP : selectMethod e.platform s.vm cellB.cls mk = .method mk := by rw [Launch.admits_selectMethod X.admits]; exact q4
  obtain ⟨vm₁, X₁, hstep₁⟩ := X.invokevirtual hexec hown hlink hnamed hmethM hstM hkP hkPi hy (a := b) (cell := cellB) hcell
    (fun z h => by rw [h] at hobj; cases hobj) hselP hmethM habM hkP hkPi (g := g) hg (argsL := argsL) (rest := rest) (hlen _ hsigM) hstack hdg
  rcases hK m meth c ⟨T.setVm vm₁, locs, cells, slots⟩ { g with stack := rest } (.invokevirtual index) mk (Value.ref b :: argsL).toArray X₁ hg hsize hdg hW (X₁.named hnamed) (hpre vm₁ X₁.warmed) with ⟨v, B, X', hpost, hsteps⟩ | ⟨q, B, X', hpost, hsteps⟩
  · exact Or.inl ⟨v, vm₁, B, X₁.warmed, X', hpost, fun target h => hstep₁ _ fun acts => by rw [doInvoke_state]; exact hsteps.trans h⟩
  · exact Or.inr ⟨q, vm₁, B, X₁.warmed, X', hpost, hstep₁ _ fun acts => by rw [doInvoke_state]; exact hsteps⟩
theorem vx_callSX (X : Stand p l e R s m args below meth c T locs cells slots) (hexec : p.tables.exec = Jvm.exec) {own : String} {index : Nat} {y : MethodName} {bytes : ByteArray} {maxL : Nat} {ret : Option FieldType} {hh : List (Nat × Nat × Nat × Nat)}
    (hown : s.vm.findClass own = some m.cls) (hlink : (Cond.methodLink own index y).before args s = true) (hstat : (Cond.static y).before args s = true) (hinit : (Cond.initialized y.cls).before args s = true)
    (hcode : (Cond.codeWith y bytes maxL ret hh).before args s = true) (hy : y.cls ≠ "java/lang/invoke/MethodHandle" ∧ y.cls ≠ "java/lang/invoke/VarHandle")
    {W9 : Nat} {Pre : Pt → Array Value → Prop} {Post : Pt → Array Value → Option Value → Pt → Prop} {PostX : Pt → Array Value → Addr → Pt → Prop} (hK : vx_Back l R p e below s args y 3 W9 Pre Post PostX)
    {g : JFrame} (hg : g.method = m) (hsize : g.locals.size = c.maxLocals) {argsL rest : List Value} (hlen : ∀ sig, parseMethodDescriptor y.desc = some sig → argsL.length = sig.parameters.length)
    (hstack : g.stack = argsL.reverse ++ rest) (hW : 2 * g.monitorRoom + (rest.map fun v => v.category).sum ≤ W9) (hdg : decode c.code g.pc = .ok (.invokestatic index, 3))
    (hpre : ∀ vm₁, s.WarmedH vm₁ → Pre ⟨T.setVm vm₁, locs, cells, slots⟩ argsL.toArray) :
    (∃ (v : Option Value) (vm₁ : Vm) (B : Pt), s.WarmedH vm₁ ∧ Stand p l e R s m args below meth c B.U B.locs B.cells B.slots ∧ Post ⟨T.setVm vm₁, locs, cells, slots⟩ argsL.toArray v B ∧
      ∀ target, Steps p.tables e below (B.U.setTop { g with pc := g.pc + 3, stack := v.toList ++ rest }) target → Steps p.tables e below (T.setTop g) target) ∨
    (∃ (q : Addr) (vm₁ : Vm) (B : Pt), s.WarmedH vm₁ ∧ Stand p l e R s m args below meth c B.U B.locs B.cells B.slots ∧ PostX ⟨T.setVm vm₁, locs, cells, slots⟩ argsL.toArray q B ∧
      Steps p.tables e below (T.setTop g) ((B.U.setTop { g with stack := rest }).pushFrame (.throwing q))) := by
  obtain ⟨mk, methM, cM, hnamed, hmethM, -, -, -, -, -, -, hsigM⟩ := Cond.codeWith_spec hcode
  have hstatic : methM.isStatic = true := Cond.static_spec hnamed hmethM hstat
  obtain ⟨kP, hkP, -⟩ := className_of_methodNamed hnamed
  have hinitP : kP.init = .initialized := Cond.initialized_spec (findClass_of_methodNamed hnamed) hkP hinit
  obtain ⟨vm₁, X₁, hstep₁⟩ := X.invokestatic hexec hown hlink hnamed hmethM hstatic hkP hinitP hy (g := g) hg (argsL := argsL) (rest := rest) (hlen _ hsigM) hstack hdg
  rcases hK m meth c ⟨T.setVm vm₁, locs, cells, slots⟩ { g with stack := rest } (.invokestatic index) mk argsL.toArray X₁ hg hsize hdg hW (X₁.named hnamed) (hpre vm₁ X₁.warmed) with ⟨v, B, X', hpost, hsteps⟩ | ⟨q, B, X', hpost, hsteps⟩
  · exact Or.inl ⟨v, vm₁, B, X₁.warmed, X', hpost, fun target h => hstep₁ _ fun acts => by rw [doInvoke_state]; exact hsteps.trans h⟩
  · exact Or.inr ⟨q, vm₁, B, X₁.warmed, X', hpost, hstep₁ _ fun acts => by rw [doInvoke_state]; exact hsteps⟩
theorem vx_callVW (X : Stand p l e R s m args below meth c T locs cells slots) (hexec : p.tables.exec = Jvm.exec) {own C : String} {index : Nat} {y : MethodName} {bytes : ByteArray} {maxL : Nat} {ret : Option FieldType} {hh : List (Nat × Nat × Nat × Nat)}
    (hown : s.vm.findClass own = some m.cls) (hlink : (Cond.methodLink own index y).before args s = true) (hinst : (Cond.instanceMethod y).before args s = true) (hsel : (Cond.selects C y y).before args s = true)
    (hcode : (Cond.codeWith y bytes maxL ret hh).before args s = true) (hy : y.cls ≠ "java/lang/invoke/MethodHandle" ∧ y.cls ≠ "java/lang/invoke/VarHandle")
    {W9 : Nat} {Pre : Pt → Array Value → Prop} {Post : Pt → Array Value → Option Value → Pt → Prop} (hK : Back l R p e below s args y 3 W9 Pre Post)
    {b : Addr} {cellB : Cell} (hcell : T.heap[b]? = some cellB) (hobj : cellB.vm.isStatics = false) (hcls : s.vm.findClass C = some cellB.cls)
    {g : JFrame} (hg : g.method = m) (hsize : g.locals.size = c.maxLocals) {argsL rest : List Value} (hlen : ∀ sig, parseMethodDescriptor y.desc = some sig → argsL.length = sig.parameters.length)
    (hstack : g.stack = argsL.reverse ++ .ref b :: rest) (hW : 2 * g.monitorRoom + (rest.map fun v => v.category).sum ≤ W9) (hdg : decode c.code g.pc = .ok (.invokevirtual index, 3))
    (hpre : ∀ vm₁, s.WarmedH vm₁ → Pre ⟨T.setVm vm₁, locs, cells, slots⟩ (Value.ref b :: argsL).toArray) :
    ∃ (v : Option Value) (vm₁ : Vm) (B : Pt), s.WarmedH vm₁ ∧ Stand p l e R s m args below meth c B.U B.locs B.cells B.slots ∧ Post ⟨T.setVm vm₁, locs, cells, slots⟩ (Value.ref b :: argsL).toArray v B ∧
      ∀ target, Steps p.tables e below (B.U.setTop { g with pc := g.pc + 3, stack := v.toList ++ rest }) target → Steps p.tables e below (T.setTop g) target := by
  obtain ⟨mk, methM, hnamed, hmethM, hstM, habM⟩ := Cond.instanceMethod_spec hinst
  obtain ⟨m8, methM', cM, hn8, hmethM', -, -, -, -, -, -, hsigM⟩ := Cond.codeWith_spec hcode
  cases Option.some.inj (hn8.symm.trans hnamed)
  cases hmethM.symm.trans hmethM'
  obtain ⟨c2, r2, m2, q1, q2, q3, q4, kP, hkP, hkPi⟩ := Cond.selects_spec hsel
  cases hcls.symm.trans q1
  cases (State.methodFound?_of_named hnamed hy).symm.trans q2
  cases hnamed.symm.trans q3
  have hselP : selectMethod e.platform s.vm cellB.cls mk = .method mk := by rw [Launch.admits_selectMethod X.admits]; exact q4
  obtain ⟨vm₁, X₁, hstep₁⟩ := X.invokevirtual hexec hown hlink hnamed hmethM hstM hkP hkPi hy (a := b) (cell := cellB) hcell
    (fun z h => by rw [h] at hobj; cases hobj) hselP hmethM habM hkP hkPi (g := g) hg (argsL := argsL) (rest := rest) (hlen _ hsigM) hstack hdg
  obtain ⟨v, B, X', hpost, hsteps⟩ := hK m meth c ⟨T.setVm vm₁, locs, cells, slots⟩ { g with stack := rest } (.invokevirtual index) mk (Value.ref b :: argsL).toArray X₁ hg hsize hdg hW (X₁.named hnamed) (hpre vm₁ X₁.warmed)
  exact ⟨v, vm₁, B, X₁.warmed, X', hpost, fun target h => hstep₁ _ fun acts => by rw [doInvoke_state]; exact hsteps.trans h⟩
abbrev vx_CVW (R : Room) (s : State) (args : Array Value) (own C : String) (index : Nat) (y : MethodName) (bytes : ByteArray) (maxL : Nat) (ret : Option FieldType) (hh : List (Nat × Nat × Nat × Nat)) (ws : List Cond) (rm : Room) (mc ms n : Nat) : Prop :=
  (rm.cells = mc ∧ rm.slots = ms ∧ rm.frames + 1 ≤ R.frames ∧ 8 + (maxL + 11) + rm.locals ≤ R.locals ∧ (∀ w ∈ ws, ∀ (a' : Array Value) (U : State), s.WarmedH U.vm → w.before a' U = true) ∧ Cond.codeWith y bytes maxL ret hh ∈ ws) ∧
  (Cond.codeWith y bytes maxL ret hh).before args s = true ∧ (Cond.initialized y.cls).before args s = true ∧ (y.cls ≠ "java/lang/invoke/MethodHandle" ∧ y.cls ≠ "java/lang/invoke/VarHandle") ∧
  (∀ sig, parseMethodDescriptor y.desc = some sig → n = sig.parameters.length) ∧ (Cond.methodLink own index y).before args s = true ∧ (Cond.instanceMethod y).before args s = true ∧ (Cond.selects C y y).before args s = true
theorem vx_cwVW {own C : String} {index maxL mc ms : Nat} {y : MethodName} {bytes : ByteArray} {ret : Option FieldType} {hh : List (Nat × Nat × Nat × Nat)} {Ts ws ws' : List Cond} {rm : Room} (n : Nat) (ht : ∀ w ∈ Ts, w.before args s = true) (hT : GoodIn Ts (wsV own index C y ws)) (hw : ws = Cond.codeWith y bytes maxL ret hh :: ws') (hrc : rm.cells = mc) (hrs : rm.slots = ms)
    (hd : y.cls = C ∧ y.cls ≠ "java/lang/invoke/MethodHandle" ∧ y.cls ≠ "java/lang/invoke/VarHandle" ∧ (parseMethodDescriptor y.desc).map (fun d => d.parameters.length) = some n) (hR : rm.frames + 1 ≤ R.frames ∧ 8 + (maxL + 11) + rm.locals ≤ R.locals) :
    vx_CVW R s args own C index y bytes maxL ret hh ws rm mc ms n := by
  obtain ⟨hC, hd⟩ := hd
  subst hC
  have ok : ∀ w ∈ wsV own index y.cls y ws, w.before args s = true := fun w h => ht w (hT w h).1
  have hG : GoodIn Ts ws := fun w h => hT w (by unfold wsV; exact List.mem_append_right _ h)
  have hc : Cond.codeWith y bytes maxL ret hh ∈ ws := by rw [hw]; exact List.mem_cons_self
  refine ⟨⟨hrc, hrs, hR.1, hR.2, pay_in ht hG, hc⟩, ht _ (hG _ hc).1, ok _ (by simp [wsV]), ⟨hd.1, hd.2.1⟩, fun sig h => ?_, ok _ (by simp [wsV]), ok _ (by simp [wsV]), ok _ (by simp [wsV])⟩
  have h2 := hd.2.2
  rw [h] at h2
  exact (Option.some.inj h2).symm
theorem vx_runVW {y : MethodName} {bytes cc : ByteArray} {maxL nL mc ms n index : Nat} {ret : Option FieldType} {hh : List (Nat × Nat × Nat × Nat)} {ws : List Cond} {rm : Room} {Pc : Array Value → State → Prop} {Qc : Array Value → State → Outcome → State → Prop} {free : Addr → Prop} {Ts : List Cond} {own C : String} {b : Addr} {As rest : List Value} {g : JFrame}
    (S : CallFix p m c cc nL s args Ts own) (hM : Met l y ws rm Pc Qc mc ms free) (cw : vx_CVW R s args own C index y bytes maxL ret hh ws rm mc ms n) (hp : PreV s H C b Pc As)
    (hg : g.method = m) (hn : As.length = n) (hsize : g.locals.size = nL) (hstack : g.stack = As.reverse ++ .ref b :: rest) (hW : 2 * g.monitorRoom + (rest.map fun v => v.category).sum ≤ 8) (hdg : decode cc g.pc = .ok (.invokevirtual index, 3)) (hf : cells + mc ≤ R.cells ∧ slots + ms ≤ R.slots) :
    va_Run p l e R s m args below meth c H locs cells slots mc ms g rest (Qc (Value.ref b :: As).toArray) free := by
  obtain ⟨⟨hrc, hrs, hfr, hlo, hws, hcw⟩, hcode, hini, hy, hlen, hl, hin, hse⟩ := cw
  have hK : Back l R p e below s args y 3 8 (PreOf R mc ms Pc) (PostOf Qc mc ms free) := va_backW (hh := hh) (bytes := bytes) (maxL := maxL) (ret := ret) hM hp.1 hrc hrs hfr hlo hws hcw (fun a' U hW => word_at hW (Or.inl (by first | rfl | simp [Cond.onTables, Cond.keeps, Cond.steady])) hini)
  obtain ⟨hx, hb, hml, ho, -⟩ := S
  obtain ⟨-, ⟨cellB, hcB, hoB, hclB⟩, hPc⟩ := hp
  intro T hT X
  obtain ⟨v, vm₁, ⟨U', l2, c2, s2⟩, hW₁, X', ⟨g', mk, t, L, e1, e2, hq, h1, hL, h2, h3⟩, st⟩ := vx_callVW X hx (C := C) (hh := hh) (bytes := bytes) (maxL := maxL) (ret := ret) ho hl hin hse hcode hy hK (by rw [hT]; exact hcB) hoB hclB hg (hsize.trans hml.symm) (argsL := As) (rest := rest) (fun sig h => hn.trans (hlen sig h)) hstack hW (by rw [hb]; exact hdg)
    (fun vm₁ hW₁ => ⟨hf.1, hf.2, hPc (T.setVm vm₁) hT hW₁⟩)
  dsimp only [Pt.U, Pt.locs, Pt.cells, Pt.slots] at X' e1 e2 h1 h2 h3 st
  subst h1; subst h2; subst h3
  exact ⟨v, (T.setVm vm₁).calling g' mk (Value.ref b :: As).toArray, t, U', L, hT, X', hL, e1, e2, hq, st⟩
section
variable {y : MethodName} {bytes cc : ByteArray} {maxL nL mc ms n index : Nat} {ret : Option FieldType} {ws : List Cond} {rm : Room} {Pc : Array Value → State → Prop} {Qc : Array Value → State → Outcome → State → Prop} {XC : String → State → State → Prop} {free : Addr → Prop} {Ts : List Cond} {own C : String} {b : Addr} {As rest : List Value} {g : JFrame}
theorem vx_runVX {hh : List (Nat × Nat × Nat × Nat)} (S : CallFix p m c cc nL s args Ts own) (hM : vx_Met l y ws rm Pc Qc XC mc ms free) (cw : vx_CVW R s args own C index y bytes maxL ret hh ws rm mc ms n) (hp : PreV s H C b Pc As)
    (hg : g.method = m) (hn : As.length = n) (hsize : g.locals.size = nL) (hstack : g.stack = As.reverse ++ .ref b :: rest) (hW : 2 * g.monitorRoom + (rest.map fun v => v.category).sum ≤ 8) (hdg : decode cc g.pc = .ok (.invokevirtual index, 3)) (hf : cells + mc ≤ R.cells ∧ slots + ms ≤ R.slots) :
    vx_Run p l e R s m args below meth c H locs cells slots mc ms g rest (Qc (Value.ref b :: As).toArray) XC free := by
  obtain ⟨⟨hrc, hrs, hfr, hlo, hws, hcw⟩, hcode, hini, hy, hlen, hl, hin, hse⟩ := cw
  have hK : vx_Back l R p e below s args y 3 8 (PreOf R mc ms Pc) (PostOf Qc mc ms free) (vx_Post XC mc ms free) := vx_backW (hh := hh) (bytes := bytes) (maxL := maxL) (ret := ret) hM hp.1 hrc hrs hfr hlo hws hcw (fun a' U hW => word_at hW (Or.inl (by first | rfl | simp [Cond.onTables, Cond.keeps, Cond.steady])) hini)
  obtain ⟨hx, hb, hml, ho, -⟩ := S
  obtain ⟨-, ⟨cellB, hcB, hoB, hclB⟩, hPc⟩ := hp
  intro T hT X
  rcases vx_callVX X hx (C := C) (hh := hh) (bytes := bytes) (maxL := maxL) (ret := ret) ho hl hin hse hcode hy hK (by rw [hT]; exact hcB) hoB hclB hg (hsize.trans hml.symm) (argsL := As) (rest := rest) (fun sig h => hn.trans (hlen sig h)) hstack hW (by rw [hb]; exact hdg)
    (fun vm₁ hW₁ => ⟨hf.1, hf.2, hPc (T.setVm vm₁) hT hW₁⟩) with ⟨v, vm₁, ⟨U', l2, c2, s2⟩, hW₁, X', ⟨g', mk, t, L, e1, e2, hq, h1, hL, h2, h3⟩, st⟩ | ⟨q, vm₁, ⟨U', l2, c2, s2⟩, hW₁, X', ⟨g', mk, t, L, E, ce, e1, e2, hq, hce, hcv, hcl, h1, hL, h2, h3⟩, st⟩
  · dsimp only [Pt.U, Pt.locs, Pt.cells, Pt.slots] at X' e1 e2 h1 h2 h3 st
    subst h1; subst h2; subst h3
    exact Or.inl ⟨v, (T.setVm vm₁).calling g' mk (Value.ref b :: As).toArray, t, U', L, hT, X', hL, e1, e2, hq, st⟩
  · dsimp only [Pt.U, Pt.locs, Pt.cells, Pt.slots] at X' e1 e2 h1 h2 h3 st hcl
    subst h1; subst h2; subst h3
    exact Or.inr ⟨q, (T.setVm vm₁).calling g' mk (Value.ref b :: As).toArray, t, U', L, E, ce, hT, X', hL, e1, e2, hq, hce, hcv, vx_cls hW₁ hcl, st⟩
theorem vx_runSX {hh : List (Nat × Nat × Nat × Nat)} (S : CallFix p m c cc nL s args Ts own) (hM : vx_Met l y ws rm Pc Qc XC mc ms free) (cw : vx_CSW R s args own index y bytes maxL ret hh ws rm mc ms n) (hp : PreS s H Pc As)
    (hg : g.method = m) (hn : As.length = n) (hsize : g.locals.size = nL) (hstack : g.stack = As.reverse ++ rest) (hW : 2 * g.monitorRoom + (rest.map fun v => v.category).sum ≤ 8) (hdg : decode cc g.pc = .ok (.invokestatic index, 3)) (hf : cells + mc ≤ R.cells ∧ slots + ms ≤ R.slots) :
    vx_Run p l e R s m args below meth c H locs cells slots mc ms g rest (Qc As.toArray) XC free := by
  obtain ⟨⟨hrc, hrs, hfr, hlo, hws, hcw⟩, hcode, hini, hy, hlen, hl, hstt⟩ := cw
  have hK : vx_Back l R p e below s args y 3 8 (PreOf R mc ms Pc) (PostOf Qc mc ms free) (vx_Post XC mc ms free) := vx_backW (hh := hh) (bytes := bytes) (maxL := maxL) (ret := ret) hM hp.1 hrc hrs hfr hlo hws hcw (fun a' U hW => word_at hW (Or.inl (by first | rfl | simp [Cond.onTables, Cond.keeps, Cond.steady])) hini)
  obtain ⟨hx, hb, hml, ho, -⟩ := S
  intro T hT X
  rcases vx_callSX X hx (hh := hh) (bytes := bytes) (maxL := maxL) (ret := ret) ho hl hstt hini hcode hy hK hg (hsize.trans hml.symm) (argsL := As) (rest := rest) (fun sig h => hn.trans (hlen sig h)) hstack hW (by rw [hb]; exact hdg)
    (fun vm₁ hW₁ => ⟨hf.1, hf.2, hp.2 (T.setVm vm₁) hT hW₁⟩) with ⟨v, vm₁, ⟨U', l2, c2, s2⟩, hW₁, X', ⟨g', mk, t, L, e1, e2, hq, h1, hL, h2, h3⟩, st⟩ | ⟨q, vm₁, ⟨U', l2, c2, s2⟩, hW₁, X', ⟨g', mk, t, L, E, ce, e1, e2, hq, hce, hcv, hcl, h1, hL, h2, h3⟩, st⟩
  · dsimp only [Pt.U, Pt.locs, Pt.cells, Pt.slots] at X' e1 e2 h1 h2 h3 st
    subst h1; subst h2; subst h3
    exact Or.inl ⟨v, (T.setVm vm₁).calling g' mk As.toArray, t, U', L, hT, X', hL, e1, e2, hq, st⟩
  · dsimp only [Pt.U, Pt.locs, Pt.cells, Pt.slots] at X' e1 e2 h1 h2 h3 st hcl
    subst h1; subst h2; subst h3
    exact Or.inr ⟨q, (T.setVm vm₁).calling g' mk As.toArray, t, U', L, E, ce, hT, X', hL, e1, e2, hq, hce, hcv, vx_cls hW₁ hcl, st⟩
end
end VXH
theorem vx_ofWH {l : Launch} {y : MethodName} {ws ws' : List Cond} {rm : Room} {Pc : Array Value → State → Prop} {Qc : Array Value → State → Outcome → State → Prop} {XC : String → State → State → Prop} {mc ms : Nat} {free : Addr → Prop} {cc : ByteArray} {maxL : Nat} {ret : Option FieldType} {hh : List (Nat × Nat × Nat × Nat)}
    (hy : plainName y.cls = true) (hw : ws = Cond.codeWith y cc maxL ret hh :: ws')
    (body : ∀ p e s m args below meth c s₁, BodyLoose p l y (headSpec ws rm) cc maxL ret e s m args below meth c s₁ → c.maxLocals = maxL → Pc args s →
      W p l e (headSpec ws rm).room s m args below meth c s.heap [] 0 0 (vx_MQ below Qc XC args s mc ms free) (entryFrame m args maxL)) : vx_Met l y ws rm Pc Qc XC mc ms free := by
  refine MetFree.of_bodyS (code := cc) (maxLocals := maxL) (ret := ret) hy ?_ ?_
  · intro args s m h hn
    obtain ⟨m9, meth, c, hn9, h1, h2, h3, h4, -, h5, h6, -⟩ := Cond.codeWith_spec (atoms_spec (ws := ws) h _ (by rw [hw]; exact List.mem_cons_self))
    cases hn.symm.trans hn9
    exact ⟨meth, c, h1, h2, h3, h4, h5, h6⟩
  · intro p e s m args below meth c s₁ B hml hP _
    have hh0 : s₁.heap = s.heap := by rw [B.state]; rfl
    obtain ⟨t, a1, o, b1, b2, b3⟩ := body p e s m args below meth c s₁ B hml hP s₁ hh0 (Stand.of_body B)
    exact ⟨t, o, a1, b1, b2, b3⟩
/-! ===== END ===== -/
end
section
/-! ===== BEGIN printed: names, fields, word lists, decode rows ===== -/
def RX0 : String := "AvalancheDesk$Avalanches"
def TX0 : u_T := fun k => match k with
  | 0 => ("AvalancheDesk$Avalanches", "days", "[I", true)
  | 1 => ("AvalancheDesk$Avalanches", "places", "[I", true)
  | 2 => ("AvalancheDesk$Avalanches", "sectors", "[I", true)
  | 3 => ("AvalancheDesk$Avalanches", "activities", "[I", true)
  | _ => ("AvalancheDesk$Avalanches", "count", "I", false)
def tyX0 : Nat → FieldType := fun k => match k with
  | 0 => .array .int
  | 1 => .array .int
  | 2 => .array .int
  | 3 => .array .int
  | _ => .int
abbrev wsX00 : List Cond := u_ws RX0 TX0 5
theorem nmX0 : ∀ a, a < 5 → ∀ b, b < 5 → a ≠ b → (TX0 a).2.1 ≠ (TX0 b).2.1 := by decide +kernel
theorem tyX0_ok : ∀ k, k < 5 → parseFieldDescriptor (TX0 k).2.2.1 = some (tyX0 k) := by decide +kernel
abbrev cX0_init : ByteArray := prog_2_method_1_code
def yX0_init : MethodName := ⟨RX0, "<init>", "()V"⟩
abbrev cX0_isFull : ByteArray := prog_2_method_2_code
def yX0_isFull : MethodName := ⟨RX0, "isFull", "()Z"⟩
abbrev cX0_note : ByteArray := prog_2_method_3_code
def yX0_note : MethodName := ⟨RX0, "note", "(IIII)V"⟩
abbrev cX0_activityOn : ByteArray := prog_2_method_4_code
def yX0_activityOn : MethodName := ⟨RX0, "activityOn", "(II)I"⟩
def RX1 : String := "AvalancheDesk$Bulletins"
def TX1 : u_T := fun k => match k with
  | 0 => ("AvalancheDesk$Bulletins", "regionsTold", "[I", true)
  | 1 => ("AvalancheDesk$Bulletins", "told", "[I", true)
  | _ => ("AvalancheDesk$Bulletins", "count", "I", false)
def tyX1 : Nat → FieldType := fun k => match k with
  | 0 => .array .int
  | 1 => .array .int
  | _ => .int
abbrev wsX10 : List Cond := u_ws RX1 TX1 3
theorem nmX1 : ∀ a, a < 3 → ∀ b, b < 3 → a ≠ b → (TX1 a).2.1 ≠ (TX1 b).2.1 := by decide +kernel
theorem tyX1_ok : ∀ k, k < 3 → parseFieldDescriptor (TX1 k).2.2.1 = some (tyX1 k) := by decide +kernel
abbrev cX1_init : ByteArray := prog_3_method_1_code
def yX1_init : MethodName := ⟨RX1, "<init>", "()V"⟩
abbrev cX1_hasDay : ByteArray := prog_3_method_2_code
def yX1_hasDay : MethodName := ⟨RX1, "hasDay", "(I)Z"⟩
abbrev cX1_tells : ByteArray := prog_3_method_3_code
def yX1_tells : MethodName := ⟨RX1, "tells", "(II)Z"⟩
abbrev cX1_write : ByteArray := prog_3_method_4_code
def yX1_write : MethodName := ⟨RX1, "write", "(IIIII)V"⟩
abbrev cX1_close : ByteArray := prog_3_method_5_code
def yX1_close : MethodName := ⟨RX1, "close", "(II)V"⟩
abbrev cX1_read : ByteArray := prog_3_method_6_code
def yX1_read : MethodName := ⟨RX1, "read", "(III)I"⟩
abbrev cX1_rowOf : ByteArray := prog_3_method_7_code
def yX1_rowOf : MethodName := ⟨RX1, "rowOf", "(II)I"⟩
def RX2 : String := "AvalancheDesk$Region"
def TX2 : u_T := fun k => match k with
  | 0 => ("AvalancheDesk$Region", "numbers", "[I", true)
  | 1 => ("AvalancheDesk$Region", "isWeatherTold", "Z", false)
  | 2 => ("AvalancheDesk$Region", "snow", "I", false)
  | 3 => ("AvalancheDesk$Region", "wind", "I", false)
  | 4 => ("AvalancheDesk$Region", "from", "I", false)
  | _ => ("AvalancheDesk$Region", "temperature", "I", false)
def tyX2 : Nat → FieldType := fun k => match k with
  | 0 => .array .int
  | 1 => .boolean
  | 2 => .int
  | 3 => .int
  | 4 => .int
  | _ => .int
abbrev wsX20 : List Cond := u_ws RX2 TX2 6
theorem nmX2 : ∀ a, a < 6 → ∀ b, b < 6 → a ≠ b → (TX2 a).2.1 ≠ (TX2 b).2.1 := by decide +kernel
theorem tyX2_ok : ∀ k, k < 6 → parseFieldDescriptor (TX2 k).2.2.1 = some (tyX2 k) := by decide +kernel
abbrev cX2_init : ByteArray := prog_4_method_1_code
def yX2_init : MethodName := ⟨RX2, "<init>", "()V"⟩
abbrev cX2_greatestOf : ByteArray := prog_4_method_2_code
def yX2_greatestOf : MethodName := ⟨RX2, "greatestOf", "(I)I"⟩
abbrev cX2_levelOfDanger : ByteArray := prog_4_method_3_code
def yX2_levelOfDanger : MethodName := ⟨RX2, "levelOfDanger", "(I)I"⟩
abbrev cX2_numberAt : ByteArray := prog_4_method_4_code
def yX2_numberAt : MethodName := ⟨RX2, "numberAt", "(II)I"⟩
abbrev cX2_put : ByteArray := prog_4_method_5_code
def yX2_put : MethodName := ⟨RX2, "put", "(III)V"⟩
abbrev cX2_tellWeather : ByteArray := prog_4_method_7_code
def yX2_tellWeather : MethodName := ⟨RX2, "tellWeather", "(IIII)V"⟩
abbrev cX2_forgetWeather : ByteArray := prog_4_method_8_code
def yX2_forgetWeather : MethodName := ⟨RX2, "forgetWeather", "()V"⟩
abbrev cX2_passDay : ByteArray := prog_4_method_9_code
def yX2_passDay : MethodName := ⟨RX2, "passDay", "()V"⟩
abbrev cX2_grow : ByteArray := prog_4_method_10_code
def yX2_grow : MethodName := ⟨RX2, "grow", "(III)V"⟩
abbrev cX2_keepPercent : ByteArray := prog_4_method_11_code
def yX2_keepPercent : MethodName := ⟨RX2, "keepPercent", "(III)V"⟩
abbrev cX2_settle : ByteArray := prog_4_method_12_code
def yX2_settle : MethodName := ⟨RX2, "settle", "(III)V"⟩
abbrev cX2_blow : ByteArray := prog_4_method_13_code
def yX2_blow : MethodName := ⟨RX2, "blow", "(I)V"⟩
abbrev cX2_buryHoar : ByteArray := prog_4_method_14_code
def yX2_buryHoar : MethodName := ⟨RX2, "buryHoar", "(III)V"⟩
abbrev cX2_thaw : ByteArray := prog_4_method_15_code
def yX2_thaw : MethodName := ⟨RX2, "thaw", "(II)V"⟩
abbrev cX2_problemAt : ByteArray := prog_4_method_16_code
def yX2_problemAt : MethodName := ⟨RX2, "problemAt", "(II)I"⟩
abbrev cX2_dangerAt : ByteArray := prog_4_method_17_code
def yX2_dangerAt : MethodName := ⟨RX2, "dangerAt", "(I)I"⟩
abbrev cX2_findLevel : ByteArray := prog_4_method_18_code
def yX2_findLevel : MethodName := ⟨RX2, "findLevel", "()I"⟩
abbrev cX2_findCore : ByteArray := prog_4_method_19_code
def yX2_findCore : MethodName := ⟨RX2, "findCore", "(I)I"⟩
abbrev cX2_findProblem : ByteArray := prog_4_method_20_code
def yX2_findProblem : MethodName := ⟨RX2, "findProblem", "(I)I"⟩
abbrev cX2_sumInCore : ByteArray := prog_4_method_21_code
def yX2_sumInCore : MethodName := ⟨RX2, "sumInCore", "(II)I"⟩
def RX3 : String := "AvalancheDesk$Route"
def TX3 : u_T := fun k => match k with
  | 0 => ("AvalancheDesk$Route", "sectors", "[I", true)
  | 1 => ("AvalancheDesk$Route", "steepnesses", "[I", true)
  | _ => ("AvalancheDesk$Route", "count", "I", false)
def tyX3 : Nat → FieldType := fun k => match k with
  | 0 => .array .int
  | 1 => .array .int
  | _ => .int
abbrev wsX30 : List Cond := u_ws RX3 TX3 3
theorem nmX3 : ∀ a, a < 3 → ∀ b, b < 3 → a ≠ b → (TX3 a).2.1 ≠ (TX3 b).2.1 := by decide +kernel
theorem tyX3_ok : ∀ k, k < 3 → parseFieldDescriptor (TX3 k).2.2.1 = some (tyX3 k) := by decide +kernel
abbrev cX3_init : ByteArray := prog_5_method_1_code
def yX3_init : MethodName := ⟨RX3, "<init>", "()V"⟩
def RX4 : String := "AvalancheDesk"
def TX4 : u_T := fun k => match k with
  | 0 => ("AvalancheDesk", "regions", "[LAvalancheDesk$Region;", true)
  | 1 => ("AvalancheDesk", "trial", "LAvalancheDesk$Region;", true)
  | 2 => ("AvalancheDesk", "archive", "LAvalancheDesk$Bulletins;", true)
  | 3 => ("AvalancheDesk", "sightings", "LAvalancheDesk$Avalanches;", true)
  | 4 => ("AvalancheDesk", "route", "LAvalancheDesk$Route;", true)
  | 5 => ("AvalancheDesk", "regionCount", "I", false)
  | _ => ("AvalancheDesk", "today", "I", false)
def tyX4 : Nat → FieldType := fun k => match k with
  | 0 => .array (.object "AvalancheDesk$Region")
  | 1 => .object "AvalancheDesk$Region"
  | 2 => .object "AvalancheDesk$Bulletins"
  | 3 => .object "AvalancheDesk$Avalanches"
  | 4 => .object "AvalancheDesk$Route"
  | 5 => .int
  | _ => .int
abbrev wsX40 : List Cond := u_ws RX4 TX4 7
theorem nmX4 : ∀ a, a < 7 → ∀ b, b < 7 → a ≠ b → (TX4 a).2.1 ≠ (TX4 b).2.1 := by decide +kernel
theorem tyX4_ok : ∀ k, k < 7 → parseFieldDescriptor (TX4 k).2.2.1 = some (tyX4 k) := by decide +kernel
abbrev cX4_init : ByteArray := prog_1_method_1_code
def yX4_init : MethodName := ⟨RX4, "<init>", "()V"⟩
abbrev cX4_addRegion : ByteArray := prog_1_method_2_code
def yX4_addRegion : MethodName := ⟨RX4, "addRegion", "()I"⟩
abbrev cX4_weather : ByteArray := prog_1_method_3_code
def yX4_weather : MethodName := ⟨RX4, "weather", "(IIIII)Z"⟩
abbrev cX4_end : ByteArray := prog_1_method_4_code
def yX4_end : MethodName := ⟨RX4, "end", "()I"⟩
abbrev cX4_day : ByteArray := prog_1_method_5_code
def yX4_day : MethodName := ⟨RX4, "day", "()I"⟩
abbrev cX4_sector : ByteArray := prog_1_method_6_code
def yX4_sector : MethodName := ⟨RX4, "sector", "(III)I"⟩
abbrev cX4_problem : ByteArray := prog_1_method_8_code
def yX4_problem : MethodName := ⟨RX4, "problem", "(III)I"⟩
abbrev cX4_danger : ByteArray := prog_1_method_9_code
def yX4_danger : MethodName := ⟨RX4, "danger", "(IIZ)I"⟩
abbrev cX4_level : ByteArray := prog_1_method_10_code
def yX4_level : MethodName := ⟨RX4, "level", "(I)I"⟩
abbrev cX4_core : ByteArray := prog_1_method_11_code
def yX4_core : MethodName := ⟨RX4, "core", "(I)I"⟩
abbrev cX4_mainProblem : ByteArray := prog_1_method_12_code
def yX4_mainProblem : MethodName := ⟨RX4, "mainProblem", "(I)I"⟩
abbrev cX4_publish : ByteArray := prog_1_method_14_code
def yX4_publish : MethodName := ⟨RX4, "publish", "()I"⟩
abbrev cX4_bulletin : ByteArray := prog_1_method_15_code
def yX4_bulletin : MethodName := ⟨RX4, "bulletin", "(III)I"⟩
abbrev cX4_see : ByteArray := prog_1_method_17_code
def yX4_see : MethodName := ⟨RX4, "see", "(III)I"⟩
abbrev cX4_borneOut : ByteArray := prog_1_method_19_code
def yX4_borneOut : MethodName := ⟨RX4, "borneOut", "(I)I"⟩
abbrev cX4_inCore : ByteArray := prog_1_method_20_code
def yX4_inCore : MethodName := ⟨RX4, "inCore", "(I)D"⟩
abbrev cX4_checkRegion : ByteArray := prog_1_method_27_code
def yX4_checkRegion : MethodName := ⟨RX4, "checkRegion", "(I)V"⟩
abbrev cX4_checkSector : ByteArray := prog_1_method_28_code
def yX4_checkSector : MethodName := ⟨RX4, "checkSector", "(I)V"⟩
abbrev cX4_checkNumber : ByteArray := prog_1_method_29_code
def yX4_checkNumber : MethodName := ⟨RX4, "checkNumber", "(I)V"⟩
abbrev cX4_checkWeather : ByteArray := prog_1_method_30_code
def yX4_checkWeather : MethodName := ⟨RX4, "checkWeather", "(IIII)V"⟩
abbrev cX4_bit : ByteArray := prog_1_method_31_code
def yX4_bit : MethodName := ⟨RX4, "bit", "(II)I"⟩
abbrev cX4_verdict : ByteArray := prog_1_method_32_code
def yX4_verdict : MethodName := ⟨RX4, "verdict", "(II)I"⟩
abbrev cX4_leastActivity : ByteArray := prog_1_method_33_code
def yX4_leastActivity : MethodName := ⟨RX4, "leastActivity", "(I)I"⟩
abbrev cX4_greatestActivity : ByteArray := prog_1_method_34_code
def yX4_greatestActivity : MethodName := ⟨RX4, "greatestActivity", "(I)I"⟩
def RX5 : String := "AvalancheDeskModel"
def TX5 : u_T := fun k => match k with
  | _ => ("", "", "", false)
def tyX5 : Nat → FieldType := fun k => match k with
  | _ => .int
abbrev wsX50 : List Cond := u_ws RX5 TX5 0
theorem nmX5 : ∀ a, a < 0 → ∀ b, b < 0 → a ≠ b → (TX5 a).2.1 ≠ (TX5 b).2.1 := by decide +kernel
theorem tyX5_ok : ∀ k, k < 0 → parseFieldDescriptor (TX5 k).2.2.1 = some (tyX5 k) := by decide +kernel
def RJ9 : String := "java/lang/Math"
def TJ9 : u_T := fun k => match k with
  | _ => ("", "", "", false)
def tyJ9 : Nat → FieldType := fun k => match k with
  | _ => .int
abbrev wsJ90 : List Cond := u_ws RJ9 TJ9 0
theorem nmJ9 : ∀ a, a < 0 → ∀ b, b < 0 → a ≠ b → (TJ9 a).2.1 ≠ (TJ9 b).2.1 := by decide +kernel
theorem tyJ9_ok : ∀ k, k < 0 → parseFieldDescriptor (TJ9 k).2.2.1 = some (tyJ9 k) := by decide +kernel
abbrev cJ9_max_7cf53 : ByteArray := prog_12_method_65_code
def yJ9_max_7cf53 : MethodName := ⟨RJ9, "max", "(II)I"⟩
abbrev cJ9_min_7cf53 : ByteArray := prog_12_method_69_code
def yJ9_min_7cf53 : MethodName := ⟨RJ9, "min", "(II)I"⟩
def RJ0 : String := "java/lang/String"
def TJ0 : u_T := fun k => match k with
  | _ => ("", "", "", false)
def tyJ0 : Nat → FieldType := fun k => match k with
  | _ => .int
abbrev wsJ00 : List Cond := u_ws RJ0 TJ0 0
theorem nmJ0 : ∀ a, a < 0 → ∀ b, b < 0 → a ≠ b → (TJ0 a).2.1 ≠ (TJ0 b).2.1 := by decide +kernel
theorem tyJ0_ok : ∀ k, k < 0 → parseFieldDescriptor (TJ0 k).2.2.1 = some (tyJ0 k) := by decide +kernel
def RL : String := "AvalancheDeskLaw"
abbrev cL_below : ByteArray := method_2_code
def yL_below : MethodName := ⟨RL, "below", "(II)I"⟩
abbrev cL_cell : ByteArray := method_3_code
def yL_cell : MethodName := ⟨RL, "cell", "([II)I"⟩
abbrev cL_law : ByteArray := code
def yL_law : MethodName := ⟨RL, "law", "([I)Z"⟩
def wsX0_init : List Cond := .code yX0_init cX0_init 1 none :: ([.methodLink RX0 3 objectInit, .instanceMethod objectInit, .code objectInit ⟨#[0xb1]⟩ 1 none, .arrayClass .int, .fieldLink RX0 11 "AvalancheDesk$Avalanches" "days" "[I", .fieldLink RX0 15 "AvalancheDesk$Avalanches" "places" "[I", .fieldLink RX0 18 "AvalancheDesk$Avalanches" "sectors" "[I", .fieldLink RX0 21 "AvalancheDesk$Avalanches" "activities" "[I"] ++ wsX00)
def wsX0_isFull : List Cond := .code yX0_isFull cX0_isFull 1 (some .boolean) :: ([.fieldLink RX0 24 "AvalancheDesk$Avalanches" "count" "I"] ++ wsX00)
def wsX0_note : List Cond := .code yX0_note cX0_note 5 none :: ([.fieldLink RX0 11 "AvalancheDesk$Avalanches" "days" "[I", .fieldLink RX0 24 "AvalancheDesk$Avalanches" "count" "I", .fieldLink RX0 15 "AvalancheDesk$Avalanches" "places" "[I", .fieldLink RX0 18 "AvalancheDesk$Avalanches" "sectors" "[I", .fieldLink RX0 21 "AvalancheDesk$Avalanches" "activities" "[I"] ++ wsX00)
def wsX0_activityOn : List Cond := .code yX0_activityOn cX0_activityOn 3 (some .int) :: ([.fieldLink RX0 21 "AvalancheDesk$Avalanches" "activities" "[I"] ++ wsX00)
def wsX1_init : List Cond := .code yX1_init cX1_init 1 none :: ([.methodLink RX1 3 objectInit, .instanceMethod objectInit, .code objectInit ⟨#[0xb1]⟩ 1 none, .arrayClass .int, .fieldLink RX1 9 "AvalancheDesk$Bulletins" "regionsTold" "[I", .fieldLink RX1 15 "AvalancheDesk$Bulletins" "told" "[I"] ++ wsX10)
def wsX1_tells : List Cond := .code yX1_tells cX1_tells 3 (some .boolean) :: ([.fieldLink RX1 9 "AvalancheDesk$Bulletins" "regionsTold" "[I"] ++ wsX10)
def wsX1_hasDay : List Cond := .code yX1_hasDay cX1_hasDay 2 (some .boolean) :: ([.methodLink RX1 18 yX1_tells, .instanceMethod yX1_tells, .selects RX1 yX1_tells yX1_tells, .initialized RX1, .code yX1_tells cX1_tells 3 (some .boolean), .fieldLink RX1 9 "AvalancheDesk$Bulletins" "regionsTold" "[I"] ++ wsX10)
def wsX1_rowOf : List Cond := .code yX1_rowOf cX1_rowOf 2 (some .int) :: ([])
def wsX1_write : List Cond := .code yX1_write cX1_write 7 none :: ([.fieldLink RX1 15 "AvalancheDesk$Bulletins" "told" "[I", .methodLink RX1 22 yX1_rowOf, .static yX1_rowOf, .initialized RX1, .code yX1_rowOf cX1_rowOf 2 (some .int)] ++ wsX10)
def wsX1_close : List Cond := .code yX1_close cX1_close 3 none :: ([.fieldLink RX1 9 "AvalancheDesk$Bulletins" "regionsTold" "[I", .fieldLink RX1 26 "AvalancheDesk$Bulletins" "count" "I"] ++ wsX10)
def wsX1_read : List Cond := .code yX1_read cX1_read 4 (some .int) :: ([.fieldLink RX1 15 "AvalancheDesk$Bulletins" "told" "[I", .methodLink RX1 22 yX1_rowOf, .static yX1_rowOf, .initialized RX1, .code yX1_rowOf cX1_rowOf 2 (some .int)] ++ wsX10)
def wsX2_init : List Cond := .code yX2_init cX2_init 1 none :: ([.methodLink RX2 3 objectInit, .instanceMethod objectInit, .code objectInit ⟨#[0xb1]⟩ 1 none, .arrayClass .int, .fieldLink RX2 9 "AvalancheDesk$Region" "numbers" "[I", .fieldLink RX2 15 "AvalancheDesk$Region" "temperature" "I"] ++ wsX20)
def wsX2_greatestOf : List Cond := .code yX2_greatestOf cX2_greatestOf 1 (some .int) :: ([])
def wsX2_levelOfDanger : List Cond := .code yX2_levelOfDanger cX2_levelOfDanger 1 (some .int) :: ([])
def wsX2_numberAt : List Cond := .code yX2_numberAt cX2_numberAt 3 (some .int) :: ([.fieldLink RX2 9 "AvalancheDesk$Region" "numbers" "[I"] ++ wsX20)
def wsX2_put : List Cond := .code yX2_put cX2_put 4 none :: ([.fieldLink RX2 9 "AvalancheDesk$Region" "numbers" "[I", .methodLink RX2 23 Lib.Math.min.name, .static Lib.Math.min.name, .initialized "java/lang/Math", .code Lib.Math.min.name Lib.Math.min.code 2 (some .int), .methodLink RX2 19 yX2_greatestOf, .static yX2_greatestOf, .initialized RX2, .code yX2_greatestOf cX2_greatestOf 1 (some .int)] ++ wsX20)
def wsX2_tellWeather : List Cond := .code yX2_tellWeather cX2_tellWeather 5 none :: ([.fieldLink RX2 35 "AvalancheDesk$Region" "isWeatherTold" "Z", .fieldLink RX2 39 "AvalancheDesk$Region" "snow" "I", .fieldLink RX2 42 "AvalancheDesk$Region" "wind" "I", .fieldLink RX2 45 "AvalancheDesk$Region" "from" "I", .fieldLink RX2 15 "AvalancheDesk$Region" "temperature" "I"] ++ wsX20)
def wsX2_forgetWeather : List Cond := .code yX2_forgetWeather cX2_forgetWeather 1 none :: ([.fieldLink RX2 35 "AvalancheDesk$Region" "isWeatherTold" "Z", .methodLink RX2 48 yX2_tellWeather, .instanceMethod yX2_tellWeather, .selects RX2 yX2_tellWeather yX2_tellWeather, .initialized RX2, .code yX2_tellWeather cX2_tellWeather 5 none, .fieldLink RX2 39 "AvalancheDesk$Region" "snow" "I", .fieldLink RX2 42 "AvalancheDesk$Region" "wind" "I", .fieldLink RX2 45 "AvalancheDesk$Region" "from" "I", .fieldLink RX2 15 "AvalancheDesk$Region" "temperature" "I"] ++ wsX20)
def wsX2_grow : List Cond := .code yX2_grow cX2_grow 4 none :: ([.methodLink RX2 67 yX2_numberAt, .instanceMethod yX2_numberAt, .selects RX2 yX2_numberAt yX2_numberAt, .initialized RX2, .code yX2_numberAt cX2_numberAt 3 (some .int), .fieldLink RX2 9 "AvalancheDesk$Region" "numbers" "[I", .methodLink RX2 70 yX2_put, .instanceMethod yX2_put, .selects RX2 yX2_put yX2_put, .code yX2_put cX2_put 4 none, .methodLink RX2 23 Lib.Math.min.name, .static Lib.Math.min.name, .initialized "java/lang/Math", .code Lib.Math.min.name Lib.Math.min.code 2 (some .int), .methodLink RX2 19 yX2_greatestOf, .static yX2_greatestOf, .code yX2_greatestOf cX2_greatestOf 1 (some .int)] ++ wsX20)
def wsX2_settle : List Cond := .code yX2_settle cX2_settle 4 none :: ([.fieldLink RX2 39 "AvalancheDesk$Region" "snow" "I", .methodLink RX2 67 yX2_numberAt, .instanceMethod yX2_numberAt, .selects RX2 yX2_numberAt yX2_numberAt, .initialized RX2, .code yX2_numberAt cX2_numberAt 3 (some .int), .fieldLink RX2 9 "AvalancheDesk$Region" "numbers" "[I", .methodLink RX2 70 yX2_put, .instanceMethod yX2_put, .selects RX2 yX2_put yX2_put, .code yX2_put cX2_put 4 none, .methodLink RX2 23 Lib.Math.min.name, .static Lib.Math.min.name, .initialized "java/lang/Math", .code Lib.Math.min.name Lib.Math.min.code 2 (some .int), .methodLink RX2 19 yX2_greatestOf, .static yX2_greatestOf, .code yX2_greatestOf cX2_greatestOf 1 (some .int), .methodLink RX2 73 yX2_grow, .instanceMethod yX2_grow, .selects RX2 yX2_grow yX2_grow, .code yX2_grow cX2_grow 4 none] ++ wsX20)
def wsX2_keepPercent : List Cond := .code yX2_keepPercent cX2_keepPercent 4 none :: ([.methodLink RX2 67 yX2_numberAt, .instanceMethod yX2_numberAt, .selects RX2 yX2_numberAt yX2_numberAt, .initialized RX2, .code yX2_numberAt cX2_numberAt 3 (some .int), .fieldLink RX2 9 "AvalancheDesk$Region" "numbers" "[I", .methodLink RX2 70 yX2_put, .instanceMethod yX2_put, .selects RX2 yX2_put yX2_put, .code yX2_put cX2_put 4 none, .methodLink RX2 23 Lib.Math.min.name, .static Lib.Math.min.name, .initialized "java/lang/Math", .code Lib.Math.min.name Lib.Math.min.code 2 (some .int), .methodLink RX2 19 yX2_greatestOf, .static yX2_greatestOf, .code yX2_greatestOf cX2_greatestOf 1 (some .int)] ++ wsX20)
def wsX2_blow_r1 : List Cond := [Cond.fieldLink RX2 42 "AvalancheDesk$Region" "wind" "I", Cond.methodLink RX2 23 Lib.Math.min.name, Cond.static Lib.Math.min.name, Cond.initialized "java/lang/Math", Cond.code Lib.Math.min.name Lib.Math.min.code 2 (some .int), Cond.fieldLink RX2 45 "AvalancheDesk$Region" "from" "I", Cond.methodLink RX2 76 yX2_keepPercent, Cond.instanceMethod yX2_keepPercent, Cond.selects RX2 yX2_keepPercent yX2_keepPercent, Cond.initialized RX2, Cond.code yX2_keepPercent cX2_keepPercent 4 none, Cond.methodLink RX2 67 yX2_numberAt, Cond.instanceMethod yX2_numberAt, Cond.selects RX2 yX2_numberAt yX2_numberAt, Cond.code yX2_numberAt cX2_numberAt 3 (some .int), Cond.fieldLink RX2 9 "AvalancheDesk$Region" "numbers" "[I", Cond.methodLink RX2 70 yX2_put, Cond.instanceMethod yX2_put, Cond.selects RX2 yX2_put yX2_put, Cond.code yX2_put cX2_put 4 none, Cond.methodLink RX2 19 yX2_greatestOf, Cond.static yX2_greatestOf, Cond.code yX2_greatestOf cX2_greatestOf 1 (some .int), Cond.methodLink RX2 73 yX2_grow]
def wsX2_blow_r2 : List Cond := [Cond.instanceMethod yX2_grow, Cond.selects RX2 yX2_grow yX2_grow, Cond.code yX2_grow cX2_grow 4 none]
def wsX2_blow : List Cond := .code yX2_blow cX2_blow 4 none :: ((wsX2_blow_r1 ++ wsX2_blow_r2) ++ wsX20)
def wsX2_buryHoar : List Cond := .code yX2_buryHoar cX2_buryHoar 4 none :: ([.fieldLink RX2 42 "AvalancheDesk$Region" "wind" "I", .methodLink RX2 67 yX2_numberAt, .instanceMethod yX2_numberAt, .selects RX2 yX2_numberAt yX2_numberAt, .initialized RX2, .code yX2_numberAt cX2_numberAt 3 (some .int), .fieldLink RX2 9 "AvalancheDesk$Region" "numbers" "[I", .methodLink RX2 73 yX2_grow, .instanceMethod yX2_grow, .selects RX2 yX2_grow yX2_grow, .code yX2_grow cX2_grow 4 none, .methodLink RX2 70 yX2_put, .instanceMethod yX2_put, .selects RX2 yX2_put yX2_put, .code yX2_put cX2_put 4 none, .methodLink RX2 23 Lib.Math.min.name, .static Lib.Math.min.name, .initialized "java/lang/Math", .code Lib.Math.min.name Lib.Math.min.code 2 (some .int), .methodLink RX2 19 yX2_greatestOf, .static yX2_greatestOf, .code yX2_greatestOf cX2_greatestOf 1 (some .int)] ++ wsX20)
def wsX2_thaw_r1 : List Cond := [Cond.methodLink RX2 76 yX2_keepPercent, Cond.instanceMethod yX2_keepPercent, Cond.selects RX2 yX2_keepPercent yX2_keepPercent, Cond.initialized RX2, Cond.code yX2_keepPercent cX2_keepPercent 4 none, Cond.methodLink RX2 67 yX2_numberAt, Cond.instanceMethod yX2_numberAt, Cond.selects RX2 yX2_numberAt yX2_numberAt, Cond.code yX2_numberAt cX2_numberAt 3 (some .int), Cond.fieldLink RX2 9 "AvalancheDesk$Region" "numbers" "[I", Cond.methodLink RX2 70 yX2_put, Cond.instanceMethod yX2_put, Cond.selects RX2 yX2_put yX2_put, Cond.code yX2_put cX2_put 4 none, Cond.methodLink RX2 23 Lib.Math.min.name, Cond.static Lib.Math.min.name, Cond.initialized "java/lang/Math", Cond.code Lib.Math.min.name Lib.Math.min.code 2 (some .int), Cond.methodLink RX2 19 yX2_greatestOf, Cond.static yX2_greatestOf, Cond.code yX2_greatestOf cX2_greatestOf 1 (some .int), Cond.methodLink RX2 73 yX2_grow, Cond.instanceMethod yX2_grow, Cond.selects RX2 yX2_grow yX2_grow]
def wsX2_thaw_r2 : List Cond := [Cond.code yX2_grow cX2_grow 4 none]
def wsX2_thaw : List Cond := .code yX2_thaw cX2_thaw 3 none :: ((wsX2_thaw_r1 ++ wsX2_thaw_r2) ++ wsX20)
def wsX2_passDay_r1 : List Cond := [Cond.fieldLink RX2 15 "AvalancheDesk$Region" "temperature" "I", Cond.fieldLink RX2 39 "AvalancheDesk$Region" "snow" "I", Cond.methodLink RX2 52 yX2_settle, Cond.instanceMethod yX2_settle, Cond.selects RX2 yX2_settle yX2_settle, Cond.initialized RX2, Cond.code yX2_settle cX2_settle 4 none, Cond.methodLink RX2 67 yX2_numberAt, Cond.instanceMethod yX2_numberAt, Cond.selects RX2 yX2_numberAt yX2_numberAt, Cond.code yX2_numberAt cX2_numberAt 3 (some .int), Cond.fieldLink RX2 9 "AvalancheDesk$Region" "numbers" "[I", Cond.methodLink RX2 70 yX2_put, Cond.instanceMethod yX2_put, Cond.selects RX2 yX2_put yX2_put, Cond.code yX2_put cX2_put 4 none, Cond.methodLink RX2 23 Lib.Math.min.name, Cond.static Lib.Math.min.name, Cond.initialized "java/lang/Math", Cond.code Lib.Math.min.name Lib.Math.min.code 2 (some .int), Cond.methodLink RX2 19 yX2_greatestOf, Cond.static yX2_greatestOf, Cond.code yX2_greatestOf cX2_greatestOf 1 (some .int), Cond.methodLink RX2 73 yX2_grow]
def wsX2_passDay_r2 : List Cond := [Cond.instanceMethod yX2_grow, Cond.selects RX2 yX2_grow yX2_grow, Cond.code yX2_grow cX2_grow 4 none, Cond.methodLink RX2 56 yX2_blow, Cond.instanceMethod yX2_blow, Cond.selects RX2 yX2_blow yX2_blow, Cond.code yX2_blow cX2_blow 4 none, Cond.fieldLink RX2 42 "AvalancheDesk$Region" "wind" "I", Cond.fieldLink RX2 45 "AvalancheDesk$Region" "from" "I", Cond.methodLink RX2 76 yX2_keepPercent, Cond.instanceMethod yX2_keepPercent, Cond.selects RX2 yX2_keepPercent yX2_keepPercent, Cond.code yX2_keepPercent cX2_keepPercent 4 none, Cond.methodLink RX2 60 yX2_buryHoar, Cond.instanceMethod yX2_buryHoar, Cond.selects RX2 yX2_buryHoar yX2_buryHoar, Cond.code yX2_buryHoar cX2_buryHoar 4 none, Cond.methodLink RX2 63 yX2_thaw, Cond.instanceMethod yX2_thaw, Cond.selects RX2 yX2_thaw yX2_thaw, Cond.code yX2_thaw cX2_thaw 3 none]
def wsX2_passDay : List Cond := .code yX2_passDay cX2_passDay 4 none :: ((wsX2_passDay_r1 ++ wsX2_passDay_r2) ++ wsX20)
def wsX2_problemAt : List Cond := .code yX2_problemAt cX2_problemAt 5 (some .int) :: ([.methodLink RX2 23 Lib.Math.min.name, .static Lib.Math.min.name, .initialized "java/lang/Math", .code Lib.Math.min.name Lib.Math.min.code 2 (some .int), .methodLink RX2 67 yX2_numberAt, .instanceMethod yX2_numberAt, .selects RX2 yX2_numberAt yX2_numberAt, .initialized RX2, .code yX2_numberAt cX2_numberAt 3 (some .int), .fieldLink RX2 9 "AvalancheDesk$Region" "numbers" "[I"] ++ wsX20)
def wsX2_dangerAt : List Cond := .code yX2_dangerAt cX2_dangerAt 6 (some .int) :: ([.methodLink RX2 23 Lib.Math.min.name, .static Lib.Math.min.name, .initialized "java/lang/Math", .code Lib.Math.min.name Lib.Math.min.code 2 (some .int), .methodLink RX2 82 Lib.Math.max.name, .static Lib.Math.max.name, .code Lib.Math.max.name Lib.Math.max.code 2 (some .int), .methodLink RX2 79 yX2_problemAt, .instanceMethod yX2_problemAt, .selects RX2 yX2_problemAt yX2_problemAt, .initialized RX2, .code yX2_problemAt cX2_problemAt 5 (some .int), .methodLink RX2 67 yX2_numberAt, .instanceMethod yX2_numberAt, .selects RX2 yX2_numberAt yX2_numberAt, .code yX2_numberAt cX2_numberAt 3 (some .int), .fieldLink RX2 9 "AvalancheDesk$Region" "numbers" "[I"] ++ wsX20)
def wsX2_findLevel : List Cond := .code yX2_findLevel cX2_findLevel 5 (some .int) :: ([.methodLink RX2 23 Lib.Math.min.name, .static Lib.Math.min.name, .initialized "java/lang/Math", .code Lib.Math.min.name Lib.Math.min.code 2 (some .int), .methodLink RX2 82 Lib.Math.max.name, .static Lib.Math.max.name, .code Lib.Math.max.name Lib.Math.max.code 2 (some .int), .methodLink RX2 85 yX2_dangerAt, .instanceMethod yX2_dangerAt, .selects RX2 yX2_dangerAt yX2_dangerAt, .initialized RX2, .code yX2_dangerAt cX2_dangerAt 6 (some .int), .methodLink RX2 79 yX2_problemAt, .instanceMethod yX2_problemAt, .selects RX2 yX2_problemAt yX2_problemAt, .code yX2_problemAt cX2_problemAt 5 (some .int), .methodLink RX2 67 yX2_numberAt, .instanceMethod yX2_numberAt, .selects RX2 yX2_numberAt yX2_numberAt, .code yX2_numberAt cX2_numberAt 3 (some .int), .fieldLink RX2 9 "AvalancheDesk$Region" "numbers" "[I", .methodLink RX2 88 yX2_levelOfDanger, .static yX2_levelOfDanger, .code yX2_levelOfDanger cX2_levelOfDanger 1 (some .int)] ++ wsX20)
def wsX2_findCore : List Cond := .code yX2_findCore cX2_findCore 4 (some .int) :: ([.methodLink RX2 85 yX2_dangerAt, .instanceMethod yX2_dangerAt, .selects RX2 yX2_dangerAt yX2_dangerAt, .initialized RX2, .code yX2_dangerAt cX2_dangerAt 6 (some .int), .methodLink RX2 23 Lib.Math.min.name, .static Lib.Math.min.name, .initialized "java/lang/Math", .code Lib.Math.min.name Lib.Math.min.code 2 (some .int), .methodLink RX2 82 Lib.Math.max.name, .static Lib.Math.max.name, .code Lib.Math.max.name Lib.Math.max.code 2 (some .int), .methodLink RX2 79 yX2_problemAt, .instanceMethod yX2_problemAt, .selects RX2 yX2_problemAt yX2_problemAt, .code yX2_problemAt cX2_problemAt 5 (some .int), .methodLink RX2 67 yX2_numberAt, .instanceMethod yX2_numberAt, .selects RX2 yX2_numberAt yX2_numberAt, .code yX2_numberAt cX2_numberAt 3 (some .int), .fieldLink RX2 9 "AvalancheDesk$Region" "numbers" "[I", .methodLink RX2 88 yX2_levelOfDanger, .static yX2_levelOfDanger, .code yX2_levelOfDanger cX2_levelOfDanger 1 (some .int)] ++ wsX20)
def wsX4_bit : List Cond := .code yX4_bit cX4_bit 2 (some .int) :: ([])
def wsX2_sumInCore : List Cond := .code yX2_sumInCore cX2_sumInCore 5 (some .int) :: ([.static yX4_bit, .initialized RX4, .code yX4_bit cX4_bit 2 (some .int), .methodLink RX2 79 yX2_problemAt, .instanceMethod yX2_problemAt, .selects RX2 yX2_problemAt yX2_problemAt, .initialized RX2, .code yX2_problemAt cX2_problemAt 5 (some .int), .methodLink RX2 23 Lib.Math.min.name, .static Lib.Math.min.name, .initialized "java/lang/Math", .code Lib.Math.min.name Lib.Math.min.code 2 (some .int), .methodLink RX2 67 yX2_numberAt, .instanceMethod yX2_numberAt, .selects RX2 yX2_numberAt yX2_numberAt, .code yX2_numberAt cX2_numberAt 3 (some .int), .fieldLink RX2 9 "AvalancheDesk$Region" "numbers" "[I"] ++ wsX20)
def wsX2_findProblem : List Cond := .code yX2_findProblem cX2_findProblem 6 (some .int) :: ([.methodLink RX2 91 yX2_sumInCore, .instanceMethod yX2_sumInCore, .selects RX2 yX2_sumInCore yX2_sumInCore, .initialized RX2, .code yX2_sumInCore cX2_sumInCore 5 (some .int), .static yX4_bit, .initialized RX4, .code yX4_bit cX4_bit 2 (some .int), .methodLink RX2 79 yX2_problemAt, .instanceMethod yX2_problemAt, .selects RX2 yX2_problemAt yX2_problemAt, .code yX2_problemAt cX2_problemAt 5 (some .int), .methodLink RX2 23 Lib.Math.min.name, .static Lib.Math.min.name, .initialized "java/lang/Math", .code Lib.Math.min.name Lib.Math.min.code 2 (some .int), .methodLink RX2 67 yX2_numberAt, .instanceMethod yX2_numberAt, .selects RX2 yX2_numberAt yX2_numberAt, .code yX2_numberAt cX2_numberAt 3 (some .int), .fieldLink RX2 9 "AvalancheDesk$Region" "numbers" "[I"] ++ wsX20)
def wsX3_init : List Cond := .code yX3_init cX3_init 1 none :: ([.methodLink RX3 1 objectInit, .instanceMethod objectInit, .code objectInit ⟨#[0xb1]⟩ 1 none, .arrayClass .int, .fieldLink RX3 9 "AvalancheDesk$Route" "sectors" "[I", .fieldLink RX3 13 "AvalancheDesk$Route" "steepnesses" "[I"] ++ wsX30)
def wsX4_init_r1 : List Cond := [Cond.methodLink RX4 1 objectInit, Cond.instanceMethod objectInit, Cond.code objectInit ⟨#[0xb1]⟩ 1 none, Cond.classLink RX4 9 RX2, Cond.fieldLink RX4 11 "AvalancheDesk" "regions" "[LAvalancheDesk$Region;", Cond.instantiable RX2 6, Cond.initialized RX2, Cond.fieldLink RX4 16 "AvalancheDesk" "trial" "LAvalancheDesk$Region;", Cond.classLink RX4 20 RX1, Cond.instantiable RX1 3, Cond.initialized RX1, Cond.fieldLink RX4 23 "AvalancheDesk" "archive" "LAvalancheDesk$Bulletins;", Cond.classLink RX4 27 RX0, Cond.instantiable RX0 5, Cond.initialized RX0, Cond.fieldLink RX4 30 "AvalancheDesk" "sightings" "LAvalancheDesk$Avalanches;", Cond.classLink RX4 34 RX3, Cond.instantiable RX3 3, Cond.initialized RX3, Cond.fieldLink RX4 37 "AvalancheDesk" "route" "LAvalancheDesk$Route;", Cond.instanceMethod yX2_init, Cond.code yX2_init cX2_init 1 none, Cond.methodLink RX2 3 objectInit, Cond.arrayClass .int]
def wsX4_init_r2 : List Cond := [Cond.fieldLink RX2 9 "AvalancheDesk$Region" "numbers" "[I", Cond.fieldLink RX2 15 "AvalancheDesk$Region" "temperature" "I", Cond.instanceMethod yX1_init, Cond.code yX1_init cX1_init 1 none, Cond.methodLink RX1 3 objectInit, Cond.fieldLink RX1 9 "AvalancheDesk$Bulletins" "regionsTold" "[I", Cond.fieldLink RX1 15 "AvalancheDesk$Bulletins" "told" "[I", Cond.instanceMethod yX0_init, Cond.code yX0_init cX0_init 1 none, Cond.methodLink RX0 3 objectInit, Cond.fieldLink RX0 11 "AvalancheDesk$Avalanches" "days" "[I", Cond.fieldLink RX0 15 "AvalancheDesk$Avalanches" "places" "[I", Cond.fieldLink RX0 18 "AvalancheDesk$Avalanches" "sectors" "[I", Cond.fieldLink RX0 21 "AvalancheDesk$Avalanches" "activities" "[I", Cond.instanceMethod yX3_init, Cond.code yX3_init cX3_init 1 none, Cond.methodLink RX3 1 objectInit, Cond.fieldLink RX3 9 "AvalancheDesk$Route" "sectors" "[I", Cond.fieldLink RX3 13 "AvalancheDesk$Route" "steepnesses" "[I"]
def wsX4_init : List Cond := .code yX4_init cX4_init 2 none :: ((wsX4_init_r1 ++ wsX4_init_r2) ++ wsX40 ++ wsX20 ++ wsX10 ++ wsX00 ++ wsX30)
def wsX4_addRegion : List Cond := .code yX4_addRegion cX4_addRegion 1 (some .int) :: ([.classLink RX4 45 "java/lang/IllegalStateException", .initialized "java/lang/IllegalStateException", .fieldLink RX4 41 "AvalancheDesk" "regionCount" "I"] ++ wsX40 ++ (vx_atS RX4 49 "java/lang/IllegalStateException" ["java/lang/RuntimeException", "java/lang/Exception"]).filter goodWord)
def wsX4_checkRegion : List Cond := .code yX4_checkRegion cX4_checkRegion 2 none :: ([.classLink RX4 101 "java/lang/IndexOutOfBoundsException", .initialized "java/lang/IndexOutOfBoundsException", .fieldLink RX4 41 "AvalancheDesk" "regionCount" "I"] ++ wsX40 ++ (vx_atS RX4 105 "java/lang/IndexOutOfBoundsException" ["java/lang/RuntimeException", "java/lang/Exception"]).filter goodWord)
def wsX4_checkWeather : List Cond := .code yX4_checkWeather cX4_checkWeather 4 none :: ([.classLink RX4 92 "java/lang/IllegalArgumentException", .initialized "java/lang/IllegalArgumentException"] ++ (vx_atS RX4 96 "java/lang/IllegalArgumentException" ["java/lang/RuntimeException", "java/lang/Exception"]).filter goodWord)
def wsX4_weather : List Cond := .code yX4_weather cX4_weather 8 (some .boolean) :: ([.fieldLink RX4 11 "AvalancheDesk" "regions" "[LAvalancheDesk$Region;", .methodLink RX4 52 yX4_checkRegion, .instanceMethod yX4_checkRegion, .selects RX4 yX4_checkRegion yX4_checkRegion, .initialized RX4, .code yX4_checkRegion cX4_checkRegion 2 none, .classLink RX4 101 "java/lang/IndexOutOfBoundsException", .initialized "java/lang/IndexOutOfBoundsException", .fieldLink RX4 41 "AvalancheDesk" "regionCount" "I", .methodLink RX4 56 yX4_checkWeather, .static yX4_checkWeather, .code yX4_checkWeather cX4_checkWeather 4 none, .classLink RX4 92 "java/lang/IllegalArgumentException", .initialized "java/lang/IllegalArgumentException", .methodLink RX4 64 yX2_tellWeather, .instanceMethod yX2_tellWeather, .selects RX2 yX2_tellWeather yX2_tellWeather, .initialized RX2, .code yX2_tellWeather cX2_tellWeather 5 none, .fieldLink RX2 35 "AvalancheDesk$Region" "isWeatherTold" "Z", .fieldLink RX2 39 "AvalancheDesk$Region" "snow" "I", .fieldLink RX2 42 "AvalancheDesk$Region" "wind" "I", .fieldLink RX2 45 "AvalancheDesk$Region" "from" "I", .fieldLink RX2 15 "AvalancheDesk$Region" "temperature" "I"] ++ wsX40 ++ wsX20 ++ (vx_atS RX4 105 "java/lang/IndexOutOfBoundsException" ["java/lang/RuntimeException", "java/lang/Exception"]).filter goodWord ++ (vx_atS RX4 96 "java/lang/IllegalArgumentException" ["java/lang/RuntimeException", "java/lang/Exception"]).filter goodWord)
def wsX4_end_r1 : List Cond := [Cond.classLink RX4 45 "java/lang/IllegalStateException", Cond.initialized "java/lang/IllegalStateException", Cond.fieldLink RX4 67 "AvalancheDesk" "today" "I", Cond.fieldLink RX4 41 "AvalancheDesk" "regionCount" "I", Cond.fieldLink RX4 11 "AvalancheDesk" "regions" "[LAvalancheDesk$Region;", Cond.methodLink RX4 72 yX2_passDay, Cond.instanceMethod yX2_passDay, Cond.selects RX2 yX2_passDay yX2_passDay, Cond.initialized RX2, Cond.code yX2_passDay cX2_passDay 4 none, Cond.fieldLink RX2 15 "AvalancheDesk$Region" "temperature" "I", Cond.fieldLink RX2 39 "AvalancheDesk$Region" "snow" "I", Cond.methodLink RX2 52 yX2_settle, Cond.instanceMethod yX2_settle, Cond.selects RX2 yX2_settle yX2_settle, Cond.code yX2_settle cX2_settle 4 none, Cond.methodLink RX2 67 yX2_numberAt, Cond.instanceMethod yX2_numberAt, Cond.selects RX2 yX2_numberAt yX2_numberAt, Cond.code yX2_numberAt cX2_numberAt 3 (some .int), Cond.fieldLink RX2 9 "AvalancheDesk$Region" "numbers" "[I", Cond.methodLink RX2 70 yX2_put, Cond.instanceMethod yX2_put, Cond.selects RX2 yX2_put yX2_put]
def wsX4_end_r2 : List Cond := [Cond.code yX2_put cX2_put 4 none, Cond.methodLink RX2 23 Lib.Math.min.name, Cond.static Lib.Math.min.name, Cond.initialized "java/lang/Math", Cond.code Lib.Math.min.name Lib.Math.min.code 2 (some .int), Cond.methodLink RX2 19 yX2_greatestOf, Cond.static yX2_greatestOf, Cond.code yX2_greatestOf cX2_greatestOf 1 (some .int), Cond.methodLink RX2 73 yX2_grow, Cond.instanceMethod yX2_grow, Cond.selects RX2 yX2_grow yX2_grow, Cond.code yX2_grow cX2_grow 4 none, Cond.methodLink RX2 56 yX2_blow, Cond.instanceMethod yX2_blow, Cond.selects RX2 yX2_blow yX2_blow, Cond.code yX2_blow cX2_blow 4 none, Cond.fieldLink RX2 42 "AvalancheDesk$Region" "wind" "I", Cond.fieldLink RX2 45 "AvalancheDesk$Region" "from" "I", Cond.methodLink RX2 76 yX2_keepPercent, Cond.instanceMethod yX2_keepPercent, Cond.selects RX2 yX2_keepPercent yX2_keepPercent, Cond.code yX2_keepPercent cX2_keepPercent 4 none, Cond.methodLink RX2 60 yX2_buryHoar, Cond.instanceMethod yX2_buryHoar]
def wsX4_end_r3 : List Cond := [Cond.selects RX2 yX2_buryHoar yX2_buryHoar, Cond.code yX2_buryHoar cX2_buryHoar 4 none, Cond.methodLink RX2 63 yX2_thaw, Cond.instanceMethod yX2_thaw, Cond.selects RX2 yX2_thaw yX2_thaw, Cond.code yX2_thaw cX2_thaw 3 none, Cond.methodLink RX4 75 yX2_forgetWeather, Cond.instanceMethod yX2_forgetWeather, Cond.selects RX2 yX2_forgetWeather yX2_forgetWeather, Cond.code yX2_forgetWeather cX2_forgetWeather 1 none, Cond.fieldLink RX2 35 "AvalancheDesk$Region" "isWeatherTold" "Z", Cond.methodLink RX2 48 yX2_tellWeather, Cond.instanceMethod yX2_tellWeather, Cond.selects RX2 yX2_tellWeather yX2_tellWeather, Cond.code yX2_tellWeather cX2_tellWeather 5 none]
def wsX4_end : List Cond := .code yX4_end cX4_end 2 (some .int) :: ((wsX4_end_r1 ++ (wsX4_end_r2 ++ wsX4_end_r3)) ++ wsX40 ++ wsX20 ++ (vx_atS RX4 49 "java/lang/IllegalStateException" ["java/lang/RuntimeException", "java/lang/Exception"]).filter goodWord)
def wsX4_day : List Cond := .code yX4_day cX4_day 1 (some .int) :: ([.fieldLink RX4 67 "AvalancheDesk" "today" "I"] ++ wsX40)
def wsX4_checkSector : List Cond := .code yX4_checkSector cX4_checkSector 1 none :: ([.classLink RX4 101 "java/lang/IndexOutOfBoundsException", .initialized "java/lang/IndexOutOfBoundsException"] ++ (vx_atS RX4 105 "java/lang/IndexOutOfBoundsException" ["java/lang/RuntimeException", "java/lang/Exception"]).filter goodWord)
def wsX4_checkNumber : List Cond := .code yX4_checkNumber cX4_checkNumber 1 none :: ([.classLink RX4 101 "java/lang/IndexOutOfBoundsException", .initialized "java/lang/IndexOutOfBoundsException"] ++ (vx_atS RX4 105 "java/lang/IndexOutOfBoundsException" ["java/lang/RuntimeException", "java/lang/Exception"]).filter goodWord)
def wsX4_sector : List Cond := .code yX4_sector cX4_sector 4 (some .int) :: ([.fieldLink RX4 11 "AvalancheDesk" "regions" "[LAvalancheDesk$Region;", .methodLink RX4 52 yX4_checkRegion, .instanceMethod yX4_checkRegion, .selects RX4 yX4_checkRegion yX4_checkRegion, .initialized RX4, .code yX4_checkRegion cX4_checkRegion 2 none, .classLink RX4 101 "java/lang/IndexOutOfBoundsException", .initialized "java/lang/IndexOutOfBoundsException", .fieldLink RX4 41 "AvalancheDesk" "regionCount" "I", .methodLink RX4 78 yX4_checkSector, .static yX4_checkSector, .code yX4_checkSector cX4_checkSector 1 none, .methodLink RX4 81 yX4_checkNumber, .static yX4_checkNumber, .code yX4_checkNumber cX4_checkNumber 1 none, .methodLink RX4 84 yX2_numberAt, .instanceMethod yX2_numberAt, .selects RX2 yX2_numberAt yX2_numberAt, .initialized RX2, .code yX2_numberAt cX2_numberAt 3 (some .int), .fieldLink RX2 9 "AvalancheDesk$Region" "numbers" "[I"] ++ wsX40 ++ wsX20 ++ (vx_atS RX4 105 "java/lang/IndexOutOfBoundsException" ["java/lang/RuntimeException", "java/lang/Exception"]).filter goodWord)
def wsX4_problem_r1 : List Cond := [Cond.classLink RX4 101 "java/lang/IndexOutOfBoundsException", Cond.initialized "java/lang/IndexOutOfBoundsException", Cond.fieldLink RX4 11 "AvalancheDesk" "regions" "[LAvalancheDesk$Region;", Cond.methodLink RX4 52 yX4_checkRegion, Cond.instanceMethod yX4_checkRegion, Cond.selects RX4 yX4_checkRegion yX4_checkRegion, Cond.initialized RX4, Cond.code yX4_checkRegion cX4_checkRegion 2 none, Cond.fieldLink RX4 41 "AvalancheDesk" "regionCount" "I", Cond.methodLink RX4 78 yX4_checkSector, Cond.static yX4_checkSector, Cond.code yX4_checkSector cX4_checkSector 1 none, Cond.methodLink RX4 106 yX2_problemAt, Cond.instanceMethod yX2_problemAt, Cond.selects RX2 yX2_problemAt yX2_problemAt, Cond.initialized RX2, Cond.code yX2_problemAt cX2_problemAt 5 (some .int), Cond.methodLink RX2 23 Lib.Math.min.name, Cond.static Lib.Math.min.name, Cond.initialized "java/lang/Math", Cond.code Lib.Math.min.name Lib.Math.min.code 2 (some .int), Cond.methodLink RX2 67 yX2_numberAt, Cond.instanceMethod yX2_numberAt, Cond.selects RX2 yX2_numberAt yX2_numberAt]
def wsX4_problem_r2 : List Cond := [Cond.code yX2_numberAt cX2_numberAt 3 (some .int), Cond.fieldLink RX2 9 "AvalancheDesk$Region" "numbers" "[I"]
def wsX4_problem : List Cond := .code yX4_problem cX4_problem 4 (some .int) :: ((wsX4_problem_r1 ++ wsX4_problem_r2) ++ wsX40 ++ wsX20 ++ (vx_atS RX4 105 "java/lang/IndexOutOfBoundsException" ["java/lang/RuntimeException", "java/lang/Exception"]).filter goodWord)
def wsX4_danger_r1 : List Cond := [Cond.fieldLink RX4 11 "AvalancheDesk" "regions" "[LAvalancheDesk$Region;", Cond.methodLink RX4 52 yX4_checkRegion, Cond.instanceMethod yX4_checkRegion, Cond.selects RX4 yX4_checkRegion yX4_checkRegion, Cond.initialized RX4, Cond.code yX4_checkRegion cX4_checkRegion 2 none, Cond.classLink RX4 101 "java/lang/IndexOutOfBoundsException", Cond.initialized "java/lang/IndexOutOfBoundsException", Cond.fieldLink RX4 41 "AvalancheDesk" "regionCount" "I", Cond.methodLink RX4 78 yX4_checkSector, Cond.static yX4_checkSector, Cond.code yX4_checkSector cX4_checkSector 1 none, Cond.methodLink RX4 109 yX2_dangerAt, Cond.instanceMethod yX2_dangerAt, Cond.selects RX2 yX2_dangerAt yX2_dangerAt, Cond.initialized RX2, Cond.code yX2_dangerAt cX2_dangerAt 6 (some .int), Cond.methodLink RX2 23 Lib.Math.min.name, Cond.static Lib.Math.min.name, Cond.initialized "java/lang/Math", Cond.code Lib.Math.min.name Lib.Math.min.code 2 (some .int), Cond.methodLink RX2 82 Lib.Math.max.name, Cond.static Lib.Math.max.name, Cond.code Lib.Math.max.name Lib.Math.max.code 2 (some .int)]
def wsX4_danger_r2 : List Cond := [Cond.methodLink RX2 79 yX2_problemAt, Cond.instanceMethod yX2_problemAt, Cond.selects RX2 yX2_problemAt yX2_problemAt, Cond.code yX2_problemAt cX2_problemAt 5 (some .int), Cond.methodLink RX2 67 yX2_numberAt, Cond.instanceMethod yX2_numberAt, Cond.selects RX2 yX2_numberAt yX2_numberAt, Cond.code yX2_numberAt cX2_numberAt 3 (some .int), Cond.fieldLink RX2 9 "AvalancheDesk$Region" "numbers" "[I", Cond.methodLink RX4 112 yX2_levelOfDanger, Cond.static yX2_levelOfDanger, Cond.code yX2_levelOfDanger cX2_levelOfDanger 1 (some .int)]
def wsX4_danger : List Cond := .code yX4_danger cX4_danger 5 (some .int) :: ((wsX4_danger_r1 ++ wsX4_danger_r2) ++ wsX40 ++ wsX20 ++ (vx_atS RX4 105 "java/lang/IndexOutOfBoundsException" ["java/lang/RuntimeException", "java/lang/Exception"]).filter goodWord)
def wsX4_level_r1 : List Cond := [Cond.fieldLink RX4 11 "AvalancheDesk" "regions" "[LAvalancheDesk$Region;", Cond.methodLink RX4 52 yX4_checkRegion, Cond.instanceMethod yX4_checkRegion, Cond.selects RX4 yX4_checkRegion yX4_checkRegion, Cond.initialized RX4, Cond.code yX4_checkRegion cX4_checkRegion 2 none, Cond.classLink RX4 101 "java/lang/IndexOutOfBoundsException", Cond.initialized "java/lang/IndexOutOfBoundsException", Cond.fieldLink RX4 41 "AvalancheDesk" "regionCount" "I", Cond.methodLink RX4 115 yX2_findLevel, Cond.instanceMethod yX2_findLevel, Cond.selects RX2 yX2_findLevel yX2_findLevel, Cond.initialized RX2, Cond.code yX2_findLevel cX2_findLevel 5 (some .int), Cond.methodLink RX2 23 Lib.Math.min.name, Cond.static Lib.Math.min.name, Cond.initialized "java/lang/Math", Cond.code Lib.Math.min.name Lib.Math.min.code 2 (some .int), Cond.methodLink RX2 82 Lib.Math.max.name, Cond.static Lib.Math.max.name, Cond.code Lib.Math.max.name Lib.Math.max.code 2 (some .int), Cond.methodLink RX2 85 yX2_dangerAt, Cond.instanceMethod yX2_dangerAt, Cond.selects RX2 yX2_dangerAt yX2_dangerAt]
def wsX4_level_r2 : List Cond := [Cond.code yX2_dangerAt cX2_dangerAt 6 (some .int), Cond.methodLink RX2 79 yX2_problemAt, Cond.instanceMethod yX2_problemAt, Cond.selects RX2 yX2_problemAt yX2_problemAt, Cond.code yX2_problemAt cX2_problemAt 5 (some .int), Cond.methodLink RX2 67 yX2_numberAt, Cond.instanceMethod yX2_numberAt, Cond.selects RX2 yX2_numberAt yX2_numberAt, Cond.code yX2_numberAt cX2_numberAt 3 (some .int), Cond.fieldLink RX2 9 "AvalancheDesk$Region" "numbers" "[I", Cond.methodLink RX2 88 yX2_levelOfDanger, Cond.static yX2_levelOfDanger, Cond.code yX2_levelOfDanger cX2_levelOfDanger 1 (some .int)]
def wsX4_level : List Cond := .code yX4_level cX4_level 2 (some .int) :: ((wsX4_level_r1 ++ wsX4_level_r2) ++ wsX40 ++ wsX20 ++ (vx_atS RX4 105 "java/lang/IndexOutOfBoundsException" ["java/lang/RuntimeException", "java/lang/Exception"]).filter goodWord)
def wsX4_core_r1 : List Cond := [Cond.fieldLink RX4 11 "AvalancheDesk" "regions" "[LAvalancheDesk$Region;", Cond.methodLink RX4 52 yX4_checkRegion, Cond.instanceMethod yX4_checkRegion, Cond.selects RX4 yX4_checkRegion yX4_checkRegion, Cond.initialized RX4, Cond.code yX4_checkRegion cX4_checkRegion 2 none, Cond.classLink RX4 101 "java/lang/IndexOutOfBoundsException", Cond.initialized "java/lang/IndexOutOfBoundsException", Cond.fieldLink RX4 41 "AvalancheDesk" "regionCount" "I", Cond.methodLink RX4 115 yX2_findLevel, Cond.instanceMethod yX2_findLevel, Cond.selects RX2 yX2_findLevel yX2_findLevel, Cond.initialized RX2, Cond.code yX2_findLevel cX2_findLevel 5 (some .int), Cond.methodLink RX2 23 Lib.Math.min.name, Cond.static Lib.Math.min.name, Cond.initialized "java/lang/Math", Cond.code Lib.Math.min.name Lib.Math.min.code 2 (some .int), Cond.methodLink RX2 82 Lib.Math.max.name, Cond.static Lib.Math.max.name, Cond.code Lib.Math.max.name Lib.Math.max.code 2 (some .int), Cond.methodLink RX2 85 yX2_dangerAt, Cond.instanceMethod yX2_dangerAt, Cond.selects RX2 yX2_dangerAt yX2_dangerAt]
def wsX4_core_r2 : List Cond := [Cond.code yX2_dangerAt cX2_dangerAt 6 (some .int), Cond.methodLink RX2 79 yX2_problemAt, Cond.instanceMethod yX2_problemAt, Cond.selects RX2 yX2_problemAt yX2_problemAt, Cond.code yX2_problemAt cX2_problemAt 5 (some .int), Cond.methodLink RX2 67 yX2_numberAt, Cond.instanceMethod yX2_numberAt, Cond.selects RX2 yX2_numberAt yX2_numberAt, Cond.code yX2_numberAt cX2_numberAt 3 (some .int), Cond.fieldLink RX2 9 "AvalancheDesk$Region" "numbers" "[I", Cond.methodLink RX2 88 yX2_levelOfDanger, Cond.static yX2_levelOfDanger, Cond.code yX2_levelOfDanger cX2_levelOfDanger 1 (some .int), Cond.methodLink RX4 119 yX2_findCore, Cond.instanceMethod yX2_findCore, Cond.selects RX2 yX2_findCore yX2_findCore, Cond.code yX2_findCore cX2_findCore 4 (some .int)]
def wsX4_core : List Cond := .code yX4_core cX4_core 2 (some .int) :: ((wsX4_core_r1 ++ wsX4_core_r2) ++ wsX40 ++ wsX20 ++ (vx_atS RX4 105 "java/lang/IndexOutOfBoundsException" ["java/lang/RuntimeException", "java/lang/Exception"]).filter goodWord)
def wsX4_mainProblem_r1 : List Cond := [Cond.fieldLink RX4 11 "AvalancheDesk" "regions" "[LAvalancheDesk$Region;", Cond.methodLink RX4 52 yX4_checkRegion, Cond.instanceMethod yX4_checkRegion, Cond.selects RX4 yX4_checkRegion yX4_checkRegion, Cond.initialized RX4, Cond.code yX4_checkRegion cX4_checkRegion 2 none, Cond.classLink RX4 101 "java/lang/IndexOutOfBoundsException", Cond.initialized "java/lang/IndexOutOfBoundsException", Cond.fieldLink RX4 41 "AvalancheDesk" "regionCount" "I", Cond.methodLink RX4 115 yX2_findLevel, Cond.instanceMethod yX2_findLevel, Cond.selects RX2 yX2_findLevel yX2_findLevel, Cond.initialized RX2, Cond.code yX2_findLevel cX2_findLevel 5 (some .int), Cond.methodLink RX2 23 Lib.Math.min.name, Cond.static Lib.Math.min.name, Cond.initialized "java/lang/Math", Cond.code Lib.Math.min.name Lib.Math.min.code 2 (some .int), Cond.methodLink RX2 82 Lib.Math.max.name, Cond.static Lib.Math.max.name, Cond.code Lib.Math.max.name Lib.Math.max.code 2 (some .int), Cond.methodLink RX2 85 yX2_dangerAt, Cond.instanceMethod yX2_dangerAt, Cond.selects RX2 yX2_dangerAt yX2_dangerAt]
def wsX4_mainProblem_r2 : List Cond := [Cond.code yX2_dangerAt cX2_dangerAt 6 (some .int), Cond.methodLink RX2 79 yX2_problemAt, Cond.instanceMethod yX2_problemAt, Cond.selects RX2 yX2_problemAt yX2_problemAt, Cond.code yX2_problemAt cX2_problemAt 5 (some .int), Cond.methodLink RX2 67 yX2_numberAt, Cond.instanceMethod yX2_numberAt, Cond.selects RX2 yX2_numberAt yX2_numberAt, Cond.code yX2_numberAt cX2_numberAt 3 (some .int), Cond.fieldLink RX2 9 "AvalancheDesk$Region" "numbers" "[I", Cond.methodLink RX2 88 yX2_levelOfDanger, Cond.static yX2_levelOfDanger, Cond.code yX2_levelOfDanger cX2_levelOfDanger 1 (some .int), Cond.methodLink RX4 119 yX2_findCore, Cond.instanceMethod yX2_findCore, Cond.selects RX2 yX2_findCore yX2_findCore, Cond.code yX2_findCore cX2_findCore 4 (some .int), Cond.methodLink RX4 122 yX2_findProblem, Cond.instanceMethod yX2_findProblem, Cond.selects RX2 yX2_findProblem yX2_findProblem, Cond.code yX2_findProblem cX2_findProblem 6 (some .int), Cond.methodLink RX2 91 yX2_sumInCore, Cond.instanceMethod yX2_sumInCore, Cond.selects RX2 yX2_sumInCore yX2_sumInCore]
def wsX4_mainProblem_r3 : List Cond := [Cond.code yX2_sumInCore cX2_sumInCore 5 (some .int), Cond.static yX4_bit, Cond.code yX4_bit cX4_bit 2 (some .int)]
def wsX4_mainProblem : List Cond := .code yX4_mainProblem cX4_mainProblem 3 (some .int) :: ((wsX4_mainProblem_r1 ++ (wsX4_mainProblem_r2 ++ wsX4_mainProblem_r3)) ++ wsX40 ++ wsX20 ++ (vx_atS RX4 105 "java/lang/IndexOutOfBoundsException" ["java/lang/RuntimeException", "java/lang/Exception"]).filter goodWord)
def wsX4_publish_r1 : List Cond := [Cond.classLink RX4 45 "java/lang/IllegalStateException", Cond.initialized "java/lang/IllegalStateException", Cond.fieldLink RX4 23 "AvalancheDesk" "archive" "LAvalancheDesk$Bulletins;", Cond.fieldLink RX4 67 "AvalancheDesk" "today" "I", Cond.fieldLink RX4 41 "AvalancheDesk" "regionCount" "I", Cond.fieldLink RX4 11 "AvalancheDesk" "regions" "[LAvalancheDesk$Region;", Cond.methodLink RX4 141 Lib.Math.max.name, Cond.static Lib.Math.max.name, Cond.initialized "java/lang/Math", Cond.code Lib.Math.max.name Lib.Math.max.code 2 (some .int), Cond.methodLink RX4 129 yX1_hasDay, Cond.instanceMethod yX1_hasDay, Cond.selects RX1 yX1_hasDay yX1_hasDay, Cond.initialized RX1, Cond.code yX1_hasDay cX1_hasDay 2 (some .boolean), Cond.methodLink RX1 18 yX1_tells, Cond.instanceMethod yX1_tells, Cond.selects RX1 yX1_tells yX1_tells, Cond.code yX1_tells cX1_tells 3 (some .boolean), Cond.fieldLink RX1 9 "AvalancheDesk$Bulletins" "regionsTold" "[I", Cond.methodLink RX4 115 yX2_findLevel, Cond.instanceMethod yX2_findLevel, Cond.selects RX2 yX2_findLevel yX2_findLevel, Cond.initialized RX2]
def wsX4_publish_r2 : List Cond := [Cond.code yX2_findLevel cX2_findLevel 5 (some .int), Cond.methodLink RX2 23 Lib.Math.min.name, Cond.static Lib.Math.min.name, Cond.code Lib.Math.min.name Lib.Math.min.code 2 (some .int), Cond.methodLink RX2 82 Lib.Math.max.name, Cond.methodLink RX2 85 yX2_dangerAt, Cond.instanceMethod yX2_dangerAt, Cond.selects RX2 yX2_dangerAt yX2_dangerAt, Cond.code yX2_dangerAt cX2_dangerAt 6 (some .int), Cond.methodLink RX2 79 yX2_problemAt, Cond.instanceMethod yX2_problemAt, Cond.selects RX2 yX2_problemAt yX2_problemAt, Cond.code yX2_problemAt cX2_problemAt 5 (some .int), Cond.methodLink RX2 67 yX2_numberAt, Cond.instanceMethod yX2_numberAt, Cond.selects RX2 yX2_numberAt yX2_numberAt, Cond.code yX2_numberAt cX2_numberAt 3 (some .int), Cond.fieldLink RX2 9 "AvalancheDesk$Region" "numbers" "[I", Cond.methodLink RX2 88 yX2_levelOfDanger, Cond.static yX2_levelOfDanger, Cond.code yX2_levelOfDanger cX2_levelOfDanger 1 (some .int), Cond.methodLink RX4 119 yX2_findCore, Cond.instanceMethod yX2_findCore, Cond.selects RX2 yX2_findCore yX2_findCore]
def wsX4_publish_r3 : List Cond := [Cond.code yX2_findCore cX2_findCore 4 (some .int), Cond.methodLink RX4 122 yX2_findProblem, Cond.instanceMethod yX2_findProblem, Cond.selects RX2 yX2_findProblem yX2_findProblem, Cond.code yX2_findProblem cX2_findProblem 6 (some .int), Cond.methodLink RX2 91 yX2_sumInCore, Cond.instanceMethod yX2_sumInCore, Cond.selects RX2 yX2_sumInCore yX2_sumInCore, Cond.code yX2_sumInCore cX2_sumInCore 5 (some .int), Cond.static yX4_bit, Cond.initialized RX4, Cond.code yX4_bit cX4_bit 2 (some .int), Cond.methodLink RX4 137 yX1_write, Cond.instanceMethod yX1_write, Cond.selects RX1 yX1_write yX1_write, Cond.code yX1_write cX1_write 7 none, Cond.fieldLink RX1 15 "AvalancheDesk$Bulletins" "told" "[I", Cond.methodLink RX1 22 yX1_rowOf, Cond.static yX1_rowOf, Cond.code yX1_rowOf cX1_rowOf 2 (some .int), Cond.methodLink RX4 146 yX1_close, Cond.instanceMethod yX1_close, Cond.selects RX1 yX1_close yX1_close, Cond.code yX1_close cX1_close 3 none]
def wsX4_publish_r4 : List Cond := [Cond.fieldLink RX1 26 "AvalancheDesk$Bulletins" "count" "I"]
def wsX4_publish : List Cond := .code yX4_publish cX4_publish 5 (some .int) :: ((wsX4_publish_r1 ++ (wsX4_publish_r2 ++ (wsX4_publish_r3 ++ wsX4_publish_r4))) ++ wsX40 ++ wsX10 ++ wsX20 ++ (vx_atS RX4 49 "java/lang/IllegalStateException" ["java/lang/RuntimeException", "java/lang/Exception"]).filter goodWord)
def wsX4_bulletin : List Cond := .code yX4_bulletin cX4_bulletin 4 (some .int) :: ([.classLink RX4 101 "java/lang/IndexOutOfBoundsException", .initialized "java/lang/IndexOutOfBoundsException", .fieldLink RX4 23 "AvalancheDesk" "archive" "LAvalancheDesk$Bulletins;", .methodLink RX4 150 yX1_tells, .instanceMethod yX1_tells, .selects RX1 yX1_tells yX1_tells, .initialized RX1, .code yX1_tells cX1_tells 3 (some .boolean), .fieldLink RX1 9 "AvalancheDesk$Bulletins" "regionsTold" "[I", .methodLink RX4 158 yX1_read, .instanceMethod yX1_read, .selects RX1 yX1_read yX1_read, .code yX1_read cX1_read 4 (some .int), .fieldLink RX1 15 "AvalancheDesk$Bulletins" "told" "[I", .methodLink RX1 22 yX1_rowOf, .static yX1_rowOf, .code yX1_rowOf cX1_rowOf 2 (some .int)] ++ wsX40 ++ wsX10 ++ (vx_atS RX4 105 "java/lang/IndexOutOfBoundsException" ["java/lang/RuntimeException", "java/lang/Exception"]).filter goodWord)
def wsX4_see_r1 : List Cond := [Cond.classLink RX4 92 "java/lang/IllegalArgumentException", Cond.initialized "java/lang/IllegalArgumentException", Cond.classLink RX4 45 "java/lang/IllegalStateException", Cond.initialized "java/lang/IllegalStateException", Cond.fieldLink RX4 30 "AvalancheDesk" "sightings" "LAvalancheDesk$Avalanches;", Cond.fieldLink RX4 67 "AvalancheDesk" "today" "I", Cond.methodLink RX4 52 yX4_checkRegion, Cond.instanceMethod yX4_checkRegion, Cond.selects RX4 yX4_checkRegion yX4_checkRegion, Cond.initialized RX4, Cond.code yX4_checkRegion cX4_checkRegion 2 none, Cond.classLink RX4 101 "java/lang/IndexOutOfBoundsException", Cond.initialized "java/lang/IndexOutOfBoundsException", Cond.fieldLink RX4 41 "AvalancheDesk" "regionCount" "I", Cond.methodLink RX4 78 yX4_checkSector, Cond.static yX4_checkSector, Cond.code yX4_checkSector cX4_checkSector 1 none, Cond.methodLink RX4 167 yX0_isFull, Cond.instanceMethod yX0_isFull, Cond.selects RX0 yX0_isFull yX0_isFull, Cond.initialized RX0, Cond.code yX0_isFull cX0_isFull 1 (some .boolean), Cond.fieldLink RX0 24 "AvalancheDesk$Avalanches" "count" "I", Cond.methodLink RX4 173 yX0_note]
def wsX4_see_r2 : List Cond := [Cond.instanceMethod yX0_note, Cond.selects RX0 yX0_note yX0_note, Cond.code yX0_note cX0_note 5 none, Cond.fieldLink RX0 11 "AvalancheDesk$Avalanches" "days" "[I", Cond.fieldLink RX0 15 "AvalancheDesk$Avalanches" "places" "[I", Cond.fieldLink RX0 18 "AvalancheDesk$Avalanches" "sectors" "[I", Cond.fieldLink RX0 21 "AvalancheDesk$Avalanches" "activities" "[I", Cond.methodLink RX4 176 yX0_activityOn, Cond.instanceMethod yX0_activityOn, Cond.selects RX0 yX0_activityOn yX0_activityOn, Cond.code yX0_activityOn cX0_activityOn 3 (some .int)]
def wsX4_see : List Cond := .code yX4_see cX4_see 4 (some .int) :: ((wsX4_see_r1 ++ wsX4_see_r2) ++ wsX40 ++ wsX00 ++ (vx_atS RX4 96 "java/lang/IllegalArgumentException" ["java/lang/RuntimeException", "java/lang/Exception"]).filter goodWord ++ (vx_atS RX4 49 "java/lang/IllegalStateException" ["java/lang/RuntimeException", "java/lang/Exception"]).filter goodWord ++ (vx_atS RX4 105 "java/lang/IndexOutOfBoundsException" ["java/lang/RuntimeException", "java/lang/Exception"]).filter goodWord)
def wsX4_leastActivity : List Cond := .code yX4_leastActivity cX4_leastActivity 1 (some .int) :: ([])
def wsX4_greatestActivity : List Cond := .code yX4_greatestActivity cX4_greatestActivity 1 (some .int) :: ([.constant RX4 263 (2147483647)])
def wsX4_verdict_r1 : List Cond := [Cond.fieldLink RX4 23 "AvalancheDesk" "archive" "LAvalancheDesk$Bulletins;", Cond.fieldLink RX4 30 "AvalancheDesk" "sightings" "LAvalancheDesk$Avalanches;", Cond.methodLink RX4 158 yX1_read, Cond.instanceMethod yX1_read, Cond.selects RX1 yX1_read yX1_read, Cond.initialized RX1, Cond.code yX1_read cX1_read 4 (some .int), Cond.fieldLink RX1 15 "AvalancheDesk$Bulletins" "told" "[I", Cond.methodLink RX1 22 yX1_rowOf, Cond.static yX1_rowOf, Cond.code yX1_rowOf cX1_rowOf 2 (some .int), Cond.methodLink RX4 176 yX0_activityOn, Cond.instanceMethod yX0_activityOn, Cond.selects RX0 yX0_activityOn yX0_activityOn, Cond.initialized RX0, Cond.code yX0_activityOn cX0_activityOn 3 (some .int), Cond.fieldLink RX0 21 "AvalancheDesk$Avalanches" "activities" "[I", Cond.methodLink RX4 255 yX4_leastActivity, Cond.static yX4_leastActivity, Cond.initialized RX4, Cond.code yX4_leastActivity cX4_leastActivity 1 (some .int), Cond.methodLink RX4 258 yX4_greatestActivity, Cond.static yX4_greatestActivity, Cond.code yX4_greatestActivity cX4_greatestActivity 1 (some .int)]
def wsX4_verdict_r2 : List Cond := [Cond.constant RX4 263 (2147483647)]
def wsX4_verdict : List Cond := .code yX4_verdict cX4_verdict 5 (some .int) :: ((wsX4_verdict_r1 ++ wsX4_verdict_r2) ++ wsX40 ++ wsX10 ++ wsX00)
def wsX4_borneOut_r1 : List Cond := [Cond.classLink RX4 92 "java/lang/IllegalArgumentException", Cond.initialized "java/lang/IllegalArgumentException", Cond.fieldLink RX4 67 "AvalancheDesk" "today" "I", Cond.fieldLink RX4 41 "AvalancheDesk" "regionCount" "I", Cond.fieldLink RX4 23 "AvalancheDesk" "archive" "LAvalancheDesk$Bulletins;", Cond.methodLink RX4 150 yX1_tells, Cond.instanceMethod yX1_tells, Cond.selects RX1 yX1_tells yX1_tells, Cond.initialized RX1, Cond.code yX1_tells cX1_tells 3 (some .boolean), Cond.fieldLink RX1 9 "AvalancheDesk$Bulletins" "regionsTold" "[I", Cond.methodLink RX4 183 yX4_verdict, Cond.instanceMethod yX4_verdict, Cond.selects RX4 yX4_verdict yX4_verdict, Cond.initialized RX4, Cond.code yX4_verdict cX4_verdict 5 (some .int), Cond.fieldLink RX4 30 "AvalancheDesk" "sightings" "LAvalancheDesk$Avalanches;", Cond.methodLink RX4 158 yX1_read, Cond.instanceMethod yX1_read, Cond.selects RX1 yX1_read yX1_read, Cond.code yX1_read cX1_read 4 (some .int), Cond.fieldLink RX1 15 "AvalancheDesk$Bulletins" "told" "[I", Cond.methodLink RX1 22 yX1_rowOf, Cond.static yX1_rowOf]
def wsX4_borneOut_r2 : List Cond := [Cond.code yX1_rowOf cX1_rowOf 2 (some .int), Cond.methodLink RX4 176 yX0_activityOn, Cond.instanceMethod yX0_activityOn, Cond.selects RX0 yX0_activityOn yX0_activityOn, Cond.initialized RX0, Cond.code yX0_activityOn cX0_activityOn 3 (some .int), Cond.fieldLink RX0 21 "AvalancheDesk$Avalanches" "activities" "[I", Cond.methodLink RX4 255 yX4_leastActivity, Cond.static yX4_leastActivity, Cond.code yX4_leastActivity cX4_leastActivity 1 (some .int), Cond.methodLink RX4 258 yX4_greatestActivity, Cond.static yX4_greatestActivity, Cond.code yX4_greatestActivity cX4_greatestActivity 1 (some .int), Cond.constant RX4 263 (2147483647)]
def wsX4_borneOut : List Cond := .code yX4_borneOut cX4_borneOut 5 (some .int) :: ((wsX4_borneOut_r1 ++ wsX4_borneOut_r2) ++ wsX40 ++ wsX10 ++ wsX00 ++ (vx_atS RX4 96 "java/lang/IllegalArgumentException" ["java/lang/RuntimeException", "java/lang/Exception"]).filter goodWord)
def wsX4_inCore_r1 : List Cond := [Cond.fieldLink RX4 30 "AvalancheDesk" "sightings" "LAvalancheDesk$Avalanches;", Cond.fieldLink RX4 23 "AvalancheDesk" "archive" "LAvalancheDesk$Bulletins;", Cond.methodLink RX4 52 yX4_checkRegion, Cond.instanceMethod yX4_checkRegion, Cond.selects RX4 yX4_checkRegion yX4_checkRegion, Cond.initialized RX4, Cond.code yX4_checkRegion cX4_checkRegion 2 none, Cond.classLink RX4 101 "java/lang/IndexOutOfBoundsException", Cond.initialized "java/lang/IndexOutOfBoundsException", Cond.fieldLink RX4 41 "AvalancheDesk" "regionCount" "I", Cond.methodLink RX4 150 yX1_tells, Cond.instanceMethod yX1_tells, Cond.selects RX1 yX1_tells yX1_tells, Cond.initialized RX1, Cond.code yX1_tells cX1_tells 3 (some .boolean), Cond.fieldLink RX1 9 "AvalancheDesk$Bulletins" "regionsTold" "[I", Cond.methodLink RX4 158 yX1_read, Cond.instanceMethod yX1_read, Cond.selects RX1 yX1_read yX1_read, Cond.code yX1_read cX1_read 4 (some .int), Cond.fieldLink RX1 15 "AvalancheDesk$Bulletins" "told" "[I", Cond.methodLink RX1 22 yX1_rowOf, Cond.static yX1_rowOf, Cond.code yX1_rowOf cX1_rowOf 2 (some .int)]
def wsX4_inCore_r2 : List Cond := [Cond.methodLink RX4 197 yX4_bit, Cond.static yX4_bit, Cond.code yX4_bit cX4_bit 2 (some .int)]
def wsX4_inCore : List Cond := .code yX4_inCore cX4_inCore 6 (some .double) :: ((wsX4_inCore_r1 ++ wsX4_inCore_r2) ++ wsX40 ++ wsX00 ++ wsX10 ++ (vx_atS RX4 105 "java/lang/IndexOutOfBoundsException" ["java/lang/RuntimeException", "java/lang/Exception"]).filter goodWord)
def wsJ9_max_7cf53 : List Cond := .code yJ9_max_7cf53 cJ9_max_7cf53 2 (some .int) :: ([])
def wsJ9_min_7cf53 : List Cond := .code yJ9_min_7cf53 cJ9_min_7cf53 2 (some .int) :: ([])
def wsL_below : List Cond := .code yL_below cL_below 2 (some .int) :: ([.constant RL 7 (2147483647)])
def wsL_cell : List Cond := .code yL_cell cL_cell 2 (some .int) :: ([.constant RL 8 (790386105)])
def wsL_law0_r1 : List Cond := [Cond.classLink RL 9 RX4, Cond.instantiable RX4 7, Cond.initialized RX4, Cond.methodLink RL 51 Lib.Math.max.name, Cond.static Lib.Math.max.name, Cond.initialized "java/lang/Math", Cond.code Lib.Math.max.name Lib.Math.max.code 2 (some .int), Cond.constant RL 59 (100000), Cond.methodLink RL 11 yX4_init, Cond.instanceMethod yX4_init, Cond.code yX4_init cX4_init 2 none, Cond.methodLink RX4 1 objectInit, Cond.instanceMethod objectInit, Cond.code objectInit ⟨#[0xb1]⟩ 1 none, Cond.classLink RX4 9 RX2, Cond.fieldLink RX4 11 "AvalancheDesk" "regions" "[LAvalancheDesk$Region;", Cond.instantiable RX2 6, Cond.initialized RX2, Cond.fieldLink RX4 16 "AvalancheDesk" "trial" "LAvalancheDesk$Region;", Cond.classLink RX4 20 RX1, Cond.instantiable RX1 3, Cond.initialized RX1, Cond.fieldLink RX4 23 "AvalancheDesk" "archive" "LAvalancheDesk$Bulletins;", Cond.classLink RX4 27 RX0]
def wsL_law0_r2 : List Cond := [Cond.instantiable RX0 5, Cond.initialized RX0, Cond.fieldLink RX4 30 "AvalancheDesk" "sightings" "LAvalancheDesk$Avalanches;", Cond.classLink RX4 34 RX3, Cond.instantiable RX3 3, Cond.initialized RX3, Cond.fieldLink RX4 37 "AvalancheDesk" "route" "LAvalancheDesk$Route;", Cond.instanceMethod yX2_init, Cond.code yX2_init cX2_init 1 none, Cond.methodLink RX2 3 objectInit, Cond.arrayClass .int, Cond.fieldLink RX2 9 "AvalancheDesk$Region" "numbers" "[I", Cond.fieldLink RX2 15 "AvalancheDesk$Region" "temperature" "I", Cond.instanceMethod yX1_init, Cond.code yX1_init cX1_init 1 none, Cond.methodLink RX1 3 objectInit, Cond.fieldLink RX1 9 "AvalancheDesk$Bulletins" "regionsTold" "[I", Cond.fieldLink RX1 15 "AvalancheDesk$Bulletins" "told" "[I", Cond.instanceMethod yX0_init, Cond.code yX0_init cX0_init 1 none, Cond.methodLink RX0 3 objectInit, Cond.fieldLink RX0 11 "AvalancheDesk$Avalanches" "days" "[I", Cond.fieldLink RX0 15 "AvalancheDesk$Avalanches" "places" "[I", Cond.fieldLink RX0 18 "AvalancheDesk$Avalanches" "sectors" "[I"]
def wsL_law0_r3 : List Cond := [Cond.fieldLink RX0 21 "AvalancheDesk$Avalanches" "activities" "[I", Cond.instanceMethod yX3_init, Cond.code yX3_init cX3_init 1 none, Cond.methodLink RX3 1 objectInit, Cond.fieldLink RX3 9 "AvalancheDesk$Route" "sectors" "[I", Cond.fieldLink RX3 13 "AvalancheDesk$Route" "steepnesses" "[I", Cond.methodLink RL 12 yL_cell, Cond.static yL_cell, Cond.initialized RL, Cond.code yL_cell cL_cell 2 (some .int), Cond.constant RL 8 (790386105), Cond.methodLink RL 18 yL_below, Cond.static yL_below, Cond.code yL_below cL_below 2 (some .int), Cond.constant RL 7 (2147483647), Cond.methodLink RL 22 yX4_addRegion, Cond.instanceMethod yX4_addRegion, Cond.selects RX4 yX4_addRegion yX4_addRegion, Cond.code yX4_addRegion cX4_addRegion 1 (some .int), Cond.classLink RX4 45 "java/lang/IllegalStateException", Cond.initialized "java/lang/IllegalStateException", Cond.fieldLink RX4 41 "AvalancheDesk" "regionCount" "I", Cond.methodLink RL 26 yX4_weather, Cond.instanceMethod yX4_weather]
def wsL_law0_r4 : List Cond := [Cond.selects RX4 yX4_weather yX4_weather, Cond.code yX4_weather cX4_weather 8 (some .boolean), Cond.methodLink RX4 52 yX4_checkRegion, Cond.instanceMethod yX4_checkRegion, Cond.selects RX4 yX4_checkRegion yX4_checkRegion, Cond.code yX4_checkRegion cX4_checkRegion 2 none, Cond.classLink RX4 101 "java/lang/IndexOutOfBoundsException", Cond.initialized "java/lang/IndexOutOfBoundsException", Cond.methodLink RX4 56 yX4_checkWeather, Cond.static yX4_checkWeather, Cond.code yX4_checkWeather cX4_checkWeather 4 none, Cond.classLink RX4 92 "java/lang/IllegalArgumentException", Cond.initialized "java/lang/IllegalArgumentException", Cond.methodLink RX4 64 yX2_tellWeather, Cond.instanceMethod yX2_tellWeather, Cond.selects RX2 yX2_tellWeather yX2_tellWeather, Cond.code yX2_tellWeather cX2_tellWeather 5 none, Cond.fieldLink RX2 35 "AvalancheDesk$Region" "isWeatherTold" "Z", Cond.fieldLink RX2 39 "AvalancheDesk$Region" "snow" "I", Cond.fieldLink RX2 42 "AvalancheDesk$Region" "wind" "I", Cond.fieldLink RX2 45 "AvalancheDesk$Region" "from" "I", Cond.methodLink RL 30 yX4_see, Cond.instanceMethod yX4_see, Cond.selects RX4 yX4_see yX4_see]
def wsL_law0_r5 : List Cond := [Cond.code yX4_see cX4_see 4 (some .int), Cond.fieldLink RX4 67 "AvalancheDesk" "today" "I", Cond.methodLink RX4 78 yX4_checkSector, Cond.static yX4_checkSector, Cond.code yX4_checkSector cX4_checkSector 1 none, Cond.methodLink RX4 167 yX0_isFull, Cond.instanceMethod yX0_isFull, Cond.selects RX0 yX0_isFull yX0_isFull, Cond.code yX0_isFull cX0_isFull 1 (some .boolean), Cond.fieldLink RX0 24 "AvalancheDesk$Avalanches" "count" "I", Cond.methodLink RX4 173 yX0_note, Cond.instanceMethod yX0_note, Cond.selects RX0 yX0_note yX0_note, Cond.code yX0_note cX0_note 5 none, Cond.methodLink RX4 176 yX0_activityOn, Cond.instanceMethod yX0_activityOn, Cond.selects RX0 yX0_activityOn yX0_activityOn, Cond.code yX0_activityOn cX0_activityOn 3 (some .int), Cond.methodLink RL 34 yX4_level, Cond.instanceMethod yX4_level, Cond.selects RX4 yX4_level yX4_level, Cond.code yX4_level cX4_level 2 (some .int), Cond.methodLink RX4 115 yX2_findLevel, Cond.instanceMethod yX2_findLevel]
def wsL_law0_r6 : List Cond := [Cond.selects RX2 yX2_findLevel yX2_findLevel, Cond.code yX2_findLevel cX2_findLevel 5 (some .int), Cond.methodLink RX2 23 Lib.Math.min.name, Cond.static Lib.Math.min.name, Cond.code Lib.Math.min.name Lib.Math.min.code 2 (some .int), Cond.methodLink RX2 82 Lib.Math.max.name, Cond.methodLink RX2 85 yX2_dangerAt, Cond.instanceMethod yX2_dangerAt, Cond.selects RX2 yX2_dangerAt yX2_dangerAt, Cond.code yX2_dangerAt cX2_dangerAt 6 (some .int), Cond.methodLink RX2 79 yX2_problemAt, Cond.instanceMethod yX2_problemAt, Cond.selects RX2 yX2_problemAt yX2_problemAt, Cond.code yX2_problemAt cX2_problemAt 5 (some .int), Cond.methodLink RX2 67 yX2_numberAt, Cond.instanceMethod yX2_numberAt, Cond.selects RX2 yX2_numberAt yX2_numberAt, Cond.code yX2_numberAt cX2_numberAt 3 (some .int), Cond.methodLink RX2 88 yX2_levelOfDanger, Cond.static yX2_levelOfDanger, Cond.code yX2_levelOfDanger cX2_levelOfDanger 1 (some .int), Cond.methodLink RL 38 yX4_core, Cond.instanceMethod yX4_core, Cond.selects RX4 yX4_core yX4_core]
def wsL_law0_r7 : List Cond := [Cond.code yX4_core cX4_core 2 (some .int), Cond.methodLink RX4 119 yX2_findCore, Cond.instanceMethod yX2_findCore, Cond.selects RX2 yX2_findCore yX2_findCore, Cond.code yX2_findCore cX2_findCore 4 (some .int), Cond.methodLink RL 41 yX4_sector, Cond.instanceMethod yX4_sector, Cond.selects RX4 yX4_sector yX4_sector, Cond.code yX4_sector cX4_sector 4 (some .int), Cond.methodLink RX4 81 yX4_checkNumber, Cond.static yX4_checkNumber, Cond.code yX4_checkNumber cX4_checkNumber 1 none, Cond.methodLink RX4 84 yX2_numberAt, Cond.methodLink RL 44 yX4_danger, Cond.instanceMethod yX4_danger, Cond.selects RX4 yX4_danger yX4_danger, Cond.code yX4_danger cX4_danger 5 (some .int), Cond.methodLink RX4 109 yX2_dangerAt, Cond.methodLink RX4 112 yX2_levelOfDanger, Cond.methodLink RL 48 yX4_problem, Cond.instanceMethod yX4_problem, Cond.selects RX4 yX4_problem yX4_problem, Cond.code yX4_problem cX4_problem 4 (some .int), Cond.methodLink RX4 106 yX2_problemAt]
def wsL_law0_r8 : List Cond := [Cond.methodLink RL 56 yX4_publish, Cond.instanceMethod yX4_publish, Cond.selects RX4 yX4_publish yX4_publish, Cond.code yX4_publish cX4_publish 5 (some .int), Cond.methodLink RX4 141 Lib.Math.max.name, Cond.methodLink RX4 129 yX1_hasDay, Cond.instanceMethod yX1_hasDay, Cond.selects RX1 yX1_hasDay yX1_hasDay, Cond.code yX1_hasDay cX1_hasDay 2 (some .boolean), Cond.methodLink RX1 18 yX1_tells, Cond.instanceMethod yX1_tells, Cond.selects RX1 yX1_tells yX1_tells, Cond.code yX1_tells cX1_tells 3 (some .boolean), Cond.methodLink RX4 122 yX2_findProblem, Cond.instanceMethod yX2_findProblem, Cond.selects RX2 yX2_findProblem yX2_findProblem, Cond.code yX2_findProblem cX2_findProblem 6 (some .int), Cond.methodLink RX2 91 yX2_sumInCore, Cond.instanceMethod yX2_sumInCore, Cond.selects RX2 yX2_sumInCore yX2_sumInCore, Cond.code yX2_sumInCore cX2_sumInCore 5 (some .int), Cond.static yX4_bit, Cond.code yX4_bit cX4_bit 2 (some .int), Cond.methodLink RX4 137 yX1_write]
def wsL_law0_r9 : List Cond := [Cond.instanceMethod yX1_write, Cond.selects RX1 yX1_write yX1_write, Cond.code yX1_write cX1_write 7 none, Cond.methodLink RX1 22 yX1_rowOf, Cond.static yX1_rowOf, Cond.code yX1_rowOf cX1_rowOf 2 (some .int), Cond.methodLink RX4 146 yX1_close, Cond.instanceMethod yX1_close, Cond.selects RX1 yX1_close yX1_close, Cond.code yX1_close cX1_close 3 none, Cond.fieldLink RX1 26 "AvalancheDesk$Bulletins" "count" "I", Cond.methodLink RL 60 yX4_mainProblem, Cond.instanceMethod yX4_mainProblem, Cond.selects RX4 yX4_mainProblem yX4_mainProblem, Cond.code yX4_mainProblem cX4_mainProblem 3 (some .int), Cond.methodLink RL 63 yX4_borneOut, Cond.instanceMethod yX4_borneOut, Cond.selects RX4 yX4_borneOut yX4_borneOut, Cond.code yX4_borneOut cX4_borneOut 5 (some .int), Cond.methodLink RX4 150 yX1_tells, Cond.methodLink RX4 183 yX4_verdict, Cond.instanceMethod yX4_verdict, Cond.selects RX4 yX4_verdict yX4_verdict, Cond.code yX4_verdict cX4_verdict 5 (some .int)]
def wsL_law0_r10 : List Cond := [Cond.methodLink RX4 158 yX1_read, Cond.instanceMethod yX1_read, Cond.selects RX1 yX1_read yX1_read, Cond.code yX1_read cX1_read 4 (some .int), Cond.methodLink RX4 255 yX4_leastActivity, Cond.static yX4_leastActivity, Cond.code yX4_leastActivity cX4_leastActivity 1 (some .int), Cond.methodLink RX4 258 yX4_greatestActivity, Cond.static yX4_greatestActivity, Cond.code yX4_greatestActivity cX4_greatestActivity 1 (some .int), Cond.constant RX4 263 (2147483647), Cond.methodLink RL 66 yX4_bulletin, Cond.instanceMethod yX4_bulletin, Cond.selects RX4 yX4_bulletin yX4_bulletin, Cond.code yX4_bulletin cX4_bulletin 4 (some .int), Cond.methodLink RL 69 yX4_end, Cond.instanceMethod yX4_end, Cond.selects RX4 yX4_end yX4_end, Cond.code yX4_end cX4_end 2 (some .int), Cond.methodLink RX4 72 yX2_passDay, Cond.instanceMethod yX2_passDay, Cond.selects RX2 yX2_passDay yX2_passDay, Cond.code yX2_passDay cX2_passDay 4 none, Cond.methodLink RX2 52 yX2_settle]
def wsL_law0_r11 : List Cond := [Cond.instanceMethod yX2_settle, Cond.selects RX2 yX2_settle yX2_settle, Cond.code yX2_settle cX2_settle 4 none, Cond.methodLink RX2 70 yX2_put, Cond.instanceMethod yX2_put, Cond.selects RX2 yX2_put yX2_put, Cond.code yX2_put cX2_put 4 none, Cond.methodLink RX2 19 yX2_greatestOf, Cond.static yX2_greatestOf, Cond.code yX2_greatestOf cX2_greatestOf 1 (some .int), Cond.methodLink RX2 73 yX2_grow, Cond.instanceMethod yX2_grow, Cond.selects RX2 yX2_grow yX2_grow, Cond.code yX2_grow cX2_grow 4 none, Cond.methodLink RX2 56 yX2_blow, Cond.instanceMethod yX2_blow, Cond.selects RX2 yX2_blow yX2_blow, Cond.code yX2_blow cX2_blow 4 none, Cond.methodLink RX2 76 yX2_keepPercent, Cond.instanceMethod yX2_keepPercent, Cond.selects RX2 yX2_keepPercent yX2_keepPercent, Cond.code yX2_keepPercent cX2_keepPercent 4 none, Cond.methodLink RX2 60 yX2_buryHoar, Cond.instanceMethod yX2_buryHoar]
def wsL_law0_r12 : List Cond := [Cond.selects RX2 yX2_buryHoar yX2_buryHoar, Cond.code yX2_buryHoar cX2_buryHoar 4 none, Cond.methodLink RX2 63 yX2_thaw, Cond.instanceMethod yX2_thaw, Cond.selects RX2 yX2_thaw yX2_thaw, Cond.code yX2_thaw cX2_thaw 3 none, Cond.methodLink RX4 75 yX2_forgetWeather, Cond.instanceMethod yX2_forgetWeather, Cond.selects RX2 yX2_forgetWeather yX2_forgetWeather, Cond.code yX2_forgetWeather cX2_forgetWeather 1 none, Cond.methodLink RX2 48 yX2_tellWeather, Cond.methodLink RL 72 yX4_inCore, Cond.instanceMethod yX4_inCore, Cond.selects RX4 yX4_inCore yX4_inCore, Cond.code yX4_inCore cX4_inCore 6 (some .double), Cond.methodLink RX4 197 yX4_bit, Cond.methodLink RL 76 yX4_day, Cond.instanceMethod yX4_day, Cond.selects RX4 yX4_day yX4_day, Cond.code yX4_day cX4_day 1 (some .int)]
def wsL_law0 : List Cond := (wsL_law0_r1 ++ (wsL_law0_r2 ++ (wsL_law0_r3 ++ (wsL_law0_r4 ++ (wsL_law0_r5 ++ (wsL_law0_r6 ++ (wsL_law0_r7 ++ (wsL_law0_r8 ++ (wsL_law0_r9 ++ (wsL_law0_r10 ++ (wsL_law0_r11 ++ wsL_law0_r12))))))))))) ++ wsX40 ++ wsX20 ++ wsX10 ++ wsX00 ++ wsX30 ++ ([] : List Cond)
def wsL_law : List Cond := wsL_law0 ++ (vx_atS RX4 49 "java/lang/IllegalStateException" ["java/lang/RuntimeException", "java/lang/Exception"]).filter goodWord ++ (vx_atS RX4 105 "java/lang/IndexOutOfBoundsException" ["java/lang/RuntimeException", "java/lang/Exception"]).filter goodWord ++ (vx_atS RX4 96 "java/lang/IllegalArgumentException" ["java/lang/RuntimeException", "java/lang/Exception"]).filter goodWord
set_option maxRecDepth 20000 in
theorem wsL_law0_r1_in : ∀ w ∈ wsL_law0_r1, w ∈ lw_tbl := fun w h => (goodIn_p wsL_law0_r1 [349, 27, 30] (by decide +kernel) (by decide +kernel) w h).1
set_option maxRecDepth 20000 in
theorem wsL_law0_r2_in : ∀ w ∈ wsL_law0_r2, w ∈ lw_tbl := fun w h => (goodIn_p wsL_law0_r2 [36, 63, 79] (by decide +kernel) (by decide +kernel) w h).1
set_option maxRecDepth 20000 in
theorem wsL_law0_r3_in : ∀ w ∈ wsL_law0_r3, w ∈ lw_tbl := fun w h => (goodIn_p wsL_law0_r3 [105, 468, 464, 141] (by decide +kernel) (by decide +kernel) w h).1
set_option maxRecDepth 20000 in
theorem wsL_law0_r4_in : ∀ w ∈ wsL_law0_r4, w ∈ lw_tbl := fun w h => (goodIn_p wsL_law0_r4 [213, 217, 236, 259] (by decide +kernel) (by decide +kernel) w h).1
set_option maxRecDepth 20000 in
theorem wsL_law0_r5_in : ∀ w ∈ wsL_law0_r5, w ∈ lw_tbl := fun w h => (goodIn_p wsL_law0_r5 [426, 322, 431, 436, 440, 356] (by decide +kernel) (by decide +kernel) w h).1
set_option maxRecDepth 20000 in
theorem wsL_law0_r6_in : ∀ w ∈ wsL_law0_r6, w ∈ lw_tbl := fun w h => (goodIn_p wsL_law0_r6 [360, 286, 345, 337, 276, 352] (by decide +kernel) (by decide +kernel) w h).1
set_option maxRecDepth 20000 in
theorem wsL_law0_r7_in : ∀ w ∈ wsL_law0_r7, w ∈ lw_tbl := fun w h => (goodIn_p wsL_law0_r7 [366, 370, 319, 326, 341, 332] (by decide +kernel) (by decide +kernel) w h).1
set_option maxRecDepth 20000 in
theorem wsL_law0_r8_in : ∀ w ∈ wsL_law0_r8, w ∈ lw_tbl := fun w h => (goodIn_p wsL_law0_r8 [389, 393, 397, 378, 382, 385] (by decide +kernel) (by decide +kernel) w h).1
set_option maxRecDepth 20000 in
theorem wsL_law0_r9_in : ∀ w ∈ wsL_law0_r9, w ∈ lw_tbl := fun w h => (goodIn_p wsL_law0_r9 [403, 406, 411, 374, 444, 449] (by decide +kernel) (by decide +kernel) w h).1
set_option maxRecDepth 20000 in
theorem wsL_law0_r10_in : ∀ w ∈ wsL_law0_r10, w ∈ lw_tbl := fun w h => (goodIn_p wsL_law0_r10 [422, 452, 455, 415, 263, 268] (by decide +kernel) (by decide +kernel) w h).1
set_option maxRecDepth 20000 in
theorem wsL_law0_r11_in : ∀ w ∈ wsL_law0_r11, w ∈ lw_tbl := fun w h => (goodIn_p wsL_law0_r11 [272, 280, 283, 290, 294, 298] (by decide +kernel) (by decide +kernel) w h).1
set_option maxRecDepth 20000 in
theorem wsL_law0_r12_in : ∀ w ∈ wsL_law0_r12, w ∈ lw_tbl := fun w h => (goodIn_p wsL_law0_r12 [302, 306, 310, 460, 315] (by decide +kernel) (by decide +kernel) w h).1
set_option maxRecDepth 20000 in
theorem wsX40_in : ∀ w ∈ wsX40, w ∈ lw_tbl := by decide +kernel
set_option maxRecDepth 20000 in
theorem wsX20_in : ∀ w ∈ wsX20, w ∈ lw_tbl := by decide +kernel
set_option maxRecDepth 20000 in
theorem wsX10_in : ∀ w ∈ wsX10, w ∈ lw_tbl := by decide +kernel
set_option maxRecDepth 20000 in
theorem wsX00_in : ∀ w ∈ wsX00, w ∈ lw_tbl := by decide +kernel
set_option maxRecDepth 20000 in
theorem wsX30_in : ∀ w ∈ wsX30, w ∈ lw_tbl := by decide +kernel
theorem wsL_law_in0 : ∀ w ∈ wsL_law0, w ∈ lw_tbl := fun w h => (List.mem_append.mp h).elim (fun h => (List.mem_append.mp h).elim (fun h => (List.mem_append.mp h).elim (fun h => (List.mem_append.mp h).elim (fun h => (List.mem_append.mp h).elim (fun h => (List.mem_append.mp h).elim (fun h => (List.mem_append.mp h).elim (fun h => wsL_law0_r1_in w h) (fun h => (List.mem_append.mp h).elim (fun h => wsL_law0_r2_in w h) (fun h => (List.mem_append.mp h).elim (fun h => wsL_law0_r3_in w h) (fun h => (List.mem_append.mp h).elim (fun h => wsL_law0_r4_in w h) (fun h => (List.mem_append.mp h).elim (fun h => wsL_law0_r5_in w h) (fun h => (List.mem_append.mp h).elim (fun h => wsL_law0_r6_in w h) (fun h => (List.mem_append.mp h).elim (fun h => wsL_law0_r7_in w h) (fun h => (List.mem_append.mp h).elim (fun h => wsL_law0_r8_in w h) (fun h => (List.mem_append.mp h).elim (fun h => wsL_law0_r9_in w h) (fun h => (List.mem_append.mp h).elim (fun h => wsL_law0_r10_in w h) (fun h => (List.mem_append.mp h).elim (fun h => wsL_law0_r11_in w h) (fun h => wsL_law0_r12_in w h)))))))))))) (fun h => wsX40_in w h)) (fun h => wsX20_in w h)) (fun h => wsX10_in w h)) (fun h => wsX00_in w h)) (fun h => wsX30_in w h)) (fun h => absurd h List.not_mem_nil)
theorem wsL_law_x0 : ∀ w ∈ (vx_atS RX4 49 "java/lang/IllegalStateException" ["java/lang/RuntimeException", "java/lang/Exception"]).filter goodWord, w ∈ lw_tbl := by decide +kernel
theorem wsL_law_x1 : ∀ w ∈ (vx_atS RX4 105 "java/lang/IndexOutOfBoundsException" ["java/lang/RuntimeException", "java/lang/Exception"]).filter goodWord, w ∈ lw_tbl := by decide +kernel
theorem wsL_law_x2 : ∀ w ∈ (vx_atS RX4 96 "java/lang/IllegalArgumentException" ["java/lang/RuntimeException", "java/lang/Exception"]).filter goodWord, w ∈ lw_tbl := by decide +kernel
theorem wsL_law_in : ∀ w ∈ wsL_law, w ∈ lw_tbl := fun w h => (List.mem_append.mp h).elim (fun h => (List.mem_append.mp h).elim (fun h => (List.mem_append.mp h).elim (fun h => wsL_law_in0 w h) (fun h => wsL_law_x0 w h)) (fun h => wsL_law_x1 w h)) (fun h => wsL_law_x2 w h)
theorem inlX0 : ∀ w ∈ wsX00, w ∈ wsL_law := fun _ h => List.mem_append_left _ (List.mem_append_left _ (List.mem_append_left _ (List.mem_append_left _ (List.mem_append_left _ (List.mem_append_right _ h)))))
theorem inX0 : ∀ w ∈ wsX00, w ∈ lw_tbl := fun w h => wsL_law_in w (inlX0 w h)
theorem inlX1 : ∀ w ∈ wsX10, w ∈ wsL_law := fun _ h => List.mem_append_left _ (List.mem_append_left _ (List.mem_append_left _ (List.mem_append_left _ (List.mem_append_left _ (List.mem_append_left _ (List.mem_append_right _ h))))))
theorem inX1 : ∀ w ∈ wsX10, w ∈ lw_tbl := fun w h => wsL_law_in w (inlX1 w h)
theorem inlX2 : ∀ w ∈ wsX20, w ∈ wsL_law := fun _ h => List.mem_append_left _ (List.mem_append_left _ (List.mem_append_left _ (List.mem_append_left _ (List.mem_append_left _ (List.mem_append_left _ (List.mem_append_left _ (List.mem_append_right _ h)))))))
theorem inX2 : ∀ w ∈ wsX20, w ∈ lw_tbl := fun w h => wsL_law_in w (inlX2 w h)
theorem inlX3 : ∀ w ∈ wsX30, w ∈ wsL_law := fun _ h => List.mem_append_left _ (List.mem_append_left _ (List.mem_append_left _ (List.mem_append_left _ (List.mem_append_right _ h))))
theorem inX3 : ∀ w ∈ wsX30, w ∈ lw_tbl := fun w h => wsL_law_in w (inlX3 w h)
theorem inlX4 : ∀ w ∈ wsX40, w ∈ wsL_law := fun _ h => List.mem_append_left _ (List.mem_append_left _ (List.mem_append_left _ (List.mem_append_left _ (List.mem_append_left _ (List.mem_append_left _ (List.mem_append_left _ (List.mem_append_left _ (List.mem_append_right _ h))))))))
theorem inX4 : ∀ w ∈ wsX40, w ∈ lw_tbl := fun w h => wsL_law_in w (inlX4 w h)
theorem inX5 : ∀ w ∈ wsX50, w ∈ lw_tbl := by decide +kernel
theorem inJ9 : ∀ w ∈ wsJ90, w ∈ lw_tbl := by decide +kernel
theorem inJ0 : ∀ w ∈ wsJ00, w ∈ lw_tbl := by decide +kernel
abbrev vwCl : List vw_C := [(RX0, TX0, 5), (RX1, TX1, 3), (RX2, TX2, 6), (RX3, TX3, 3), (RX4, TX4, 7)]
end
section
theorem dX0_init_0 : decode cX0_init 0 = .ok (.aload_n 0, 1) := by decide +kernel
theorem dX0_init_1 : decode cX0_init 1 = .ok (.invokespecial 3, 3) := by decide +kernel
theorem dX0_init_4 : decode cX0_init 4 = .ok (.aload_n 0, 1) := by decide +kernel
theorem dX0_init_5 : decode cX0_init 5 = .ok (.sipush 200, 3) := by decide +kernel
theorem dX0_init_8 : decode cX0_init 8 = .ok (.newarray .int, 2) := by decide +kernel
theorem dX0_init_10 : decode cX0_init 10 = .ok (.putfield 11, 3) := by decide +kernel
theorem dX0_init_13 : decode cX0_init 13 = .ok (.aload_n 0, 1) := by decide +kernel
theorem dX0_init_14 : decode cX0_init 14 = .ok (.sipush 200, 3) := by decide +kernel
theorem dX0_init_17 : decode cX0_init 17 = .ok (.newarray .int, 2) := by decide +kernel
theorem dX0_init_19 : decode cX0_init 19 = .ok (.putfield 15, 3) := by decide +kernel
theorem dX0_init_22 : decode cX0_init 22 = .ok (.aload_n 0, 1) := by decide +kernel
theorem dX0_init_23 : decode cX0_init 23 = .ok (.sipush 200, 3) := by decide +kernel
theorem dX0_init_26 : decode cX0_init 26 = .ok (.newarray .int, 2) := by decide +kernel
theorem dX0_init_28 : decode cX0_init 28 = .ok (.putfield 18, 3) := by decide +kernel
theorem dX0_init_31 : decode cX0_init 31 = .ok (.aload_n 0, 1) := by decide +kernel
theorem dX0_init_32 : decode cX0_init 32 = .ok (.sipush 366, 3) := by decide +kernel
theorem dX0_init_35 : decode cX0_init 35 = .ok (.newarray .int, 2) := by decide +kernel
theorem dX0_init_37 : decode cX0_init 37 = .ok (.putfield 21, 3) := by decide +kernel
theorem dX0_init_40 : decode cX0_init 40 = .ok (.return_, 1) := by decide +kernel
theorem dX0_isFull_0 : decode cX0_isFull 0 = .ok (.aload_n 0, 1) := by decide +kernel
theorem dX0_isFull_1 : decode cX0_isFull 1 = .ok (.getfield 24, 3) := by decide +kernel
theorem dX0_isFull_4 : decode cX0_isFull 4 = .ok (.sipush 200, 3) := by decide +kernel
theorem dX0_isFull_7 : decode cX0_isFull 7 = .ok (.if_icmp .lt 7, 3) := by decide +kernel
theorem dX0_isFull_10 : decode cX0_isFull 10 = .ok (.iconst 1, 1) := by decide +kernel
theorem dX0_isFull_11 : decode cX0_isFull 11 = .ok (.goto 4, 3) := by decide +kernel
theorem dX0_isFull_14 : decode cX0_isFull 14 = .ok (.iconst 0, 1) := by decide +kernel
theorem dX0_isFull_15 : decode cX0_isFull 15 = .ok (.ireturn, 1) := by decide +kernel
theorem dX0_note_0 : decode cX0_note 0 = .ok (.aload_n 0, 1) := by decide +kernel
theorem dX0_note_1 : decode cX0_note 1 = .ok (.getfield 11, 3) := by decide +kernel
theorem dX0_note_4 : decode cX0_note 4 = .ok (.aload_n 0, 1) := by decide +kernel
theorem dX0_note_5 : decode cX0_note 5 = .ok (.getfield 24, 3) := by decide +kernel
theorem dX0_note_8 : decode cX0_note 8 = .ok (.iload_n 1, 1) := by decide +kernel
theorem dX0_note_9 : decode cX0_note 9 = .ok (.iastore, 1) := by decide +kernel
theorem dX0_note_10 : decode cX0_note 10 = .ok (.aload_n 0, 1) := by decide +kernel
theorem dX0_note_11 : decode cX0_note 11 = .ok (.getfield 15, 3) := by decide +kernel
theorem dX0_note_14 : decode cX0_note 14 = .ok (.aload_n 0, 1) := by decide +kernel
theorem dX0_note_15 : decode cX0_note 15 = .ok (.getfield 24, 3) := by decide +kernel
theorem dX0_note_18 : decode cX0_note 18 = .ok (.iload_n 2, 1) := by decide +kernel
theorem dX0_note_19 : decode cX0_note 19 = .ok (.iastore, 1) := by decide +kernel
theorem dX0_note_20 : decode cX0_note 20 = .ok (.aload_n 0, 1) := by decide +kernel
theorem dX0_note_21 : decode cX0_note 21 = .ok (.getfield 18, 3) := by decide +kernel
theorem dX0_note_24 : decode cX0_note 24 = .ok (.aload_n 0, 1) := by decide +kernel
theorem dX0_note_25 : decode cX0_note 25 = .ok (.getfield 24, 3) := by decide +kernel
theorem dX0_note_28 : decode cX0_note 28 = .ok (.iload_n 3, 1) := by decide +kernel
theorem dX0_note_29 : decode cX0_note 29 = .ok (.iastore, 1) := by decide +kernel
theorem dX0_note_30 : decode cX0_note 30 = .ok (.aload_n 0, 1) := by decide +kernel
theorem dX0_note_31 : decode cX0_note 31 = .ok (.dup, 1) := by decide +kernel
theorem dX0_note_32 : decode cX0_note 32 = .ok (.getfield 24, 3) := by decide +kernel
theorem dX0_note_35 : decode cX0_note 35 = .ok (.iconst 1, 1) := by decide +kernel
theorem dX0_note_36 : decode cX0_note 36 = .ok (.iadd, 1) := by decide +kernel
theorem dX0_note_37 : decode cX0_note 37 = .ok (.putfield 24, 3) := by decide +kernel
theorem dX0_note_40 : decode cX0_note 40 = .ok (.aload_n 0, 1) := by decide +kernel
theorem dX0_note_41 : decode cX0_note 41 = .ok (.getfield 21, 3) := by decide +kernel
theorem dX0_note_44 : decode cX0_note 44 = .ok (.iload_n 1, 1) := by decide +kernel
theorem dX0_note_45 : decode cX0_note 45 = .ok (.bipush 6, 2) := by decide +kernel
theorem dX0_note_47 : decode cX0_note 47 = .ok (.imul, 1) := by decide +kernel
theorem dX0_note_48 : decode cX0_note 48 = .ok (.iload_n 2, 1) := by decide +kernel
theorem dX0_note_49 : decode cX0_note 49 = .ok (.iadd, 1) := by decide +kernel
theorem dX0_note_50 : decode cX0_note 50 = .ok (.dup2, 1) := by decide +kernel
theorem dX0_note_51 : decode cX0_note 51 = .ok (.iaload, 1) := by decide +kernel
theorem dX0_note_52 : decode cX0_note 52 = .ok (.iload 4, 2) := by decide +kernel
theorem dX0_note_54 : decode cX0_note 54 = .ok (.iload 4, 2) := by decide +kernel
theorem dX0_note_56 : decode cX0_note 56 = .ok (.imul, 1) := by decide +kernel
theorem dX0_note_57 : decode cX0_note 57 = .ok (.iadd, 1) := by decide +kernel
theorem dX0_note_58 : decode cX0_note 58 = .ok (.iastore, 1) := by decide +kernel
theorem dX0_note_59 : decode cX0_note 59 = .ok (.return_, 1) := by decide +kernel
theorem dX0_activityOn_0 : decode cX0_activityOn 0 = .ok (.aload_n 0, 1) := by decide +kernel
theorem dX0_activityOn_1 : decode cX0_activityOn 1 = .ok (.getfield 21, 3) := by decide +kernel
theorem dX0_activityOn_4 : decode cX0_activityOn 4 = .ok (.iload_n 1, 1) := by decide +kernel
theorem dX0_activityOn_5 : decode cX0_activityOn 5 = .ok (.bipush 6, 2) := by decide +kernel
theorem dX0_activityOn_7 : decode cX0_activityOn 7 = .ok (.imul, 1) := by decide +kernel
theorem dX0_activityOn_8 : decode cX0_activityOn 8 = .ok (.iload_n 2, 1) := by decide +kernel
theorem dX0_activityOn_9 : decode cX0_activityOn 9 = .ok (.iadd, 1) := by decide +kernel
theorem dX0_activityOn_10 : decode cX0_activityOn 10 = .ok (.iaload, 1) := by decide +kernel
theorem dX0_activityOn_11 : decode cX0_activityOn 11 = .ok (.ireturn, 1) := by decide +kernel
theorem dX1_init_0 : decode cX1_init 0 = .ok (.aload_n 0, 1) := by decide +kernel
theorem dX1_init_1 : decode cX1_init 1 = .ok (.invokespecial 3, 3) := by decide +kernel
theorem dX1_init_4 : decode cX1_init 4 = .ok (.aload_n 0, 1) := by decide +kernel
theorem dX1_init_5 : decode cX1_init 5 = .ok (.bipush 61, 2) := by decide +kernel
theorem dX1_init_7 : decode cX1_init 7 = .ok (.newarray .int, 2) := by decide +kernel
theorem dX1_init_9 : decode cX1_init 9 = .ok (.putfield 9, 3) := by decide +kernel
theorem dX1_init_12 : decode cX1_init 12 = .ok (.aload_n 0, 1) := by decide +kernel
theorem dX1_init_13 : decode cX1_init 13 = .ok (.sipush 1098, 3) := by decide +kernel
theorem dX1_init_16 : decode cX1_init 16 = .ok (.newarray .int, 2) := by decide +kernel
theorem dX1_init_18 : decode cX1_init 18 = .ok (.putfield 15, 3) := by decide +kernel
theorem dX1_init_21 : decode cX1_init 21 = .ok (.return_, 1) := by decide +kernel
set_option maxRecDepth 20000 in
theorem ggX1_hasDay_X1_tells : GoodIn wsX1_hasDay wsX1_tells := goodIn_r _ [5, 6, 7, 8, 9] (by decide +kernel) (by decide +kernel)
set_option maxRecDepth 20000 in
theorem gX1_hasDay_X1_tells : GoodIn wsX1_hasDay (wsV RX1 18 RX1 yX1_tells wsX1_tells) := goodIn_app (goodIn_of _ (by decide +kernel)) ggX1_hasDay_X1_tells
theorem dX1_hasDay_0 : decode cX1_hasDay 0 = .ok (.aload_n 0, 1) := by decide +kernel
theorem dX1_hasDay_1 : decode cX1_hasDay 1 = .ok (.iload_n 1, 1) := by decide +kernel
theorem dX1_hasDay_2 : decode cX1_hasDay 2 = .ok (.iconst 0, 1) := by decide +kernel
theorem dX1_hasDay_3 : decode cX1_hasDay 3 = .ok (.invokevirtual 18, 3) := by decide +kernel
theorem dX1_hasDay_6 : decode cX1_hasDay 6 = .ok (.ireturn, 1) := by decide +kernel
theorem dX1_tells_0 : decode cX1_tells 0 = .ok (.iload_n 1, 1) := by decide +kernel
theorem dX1_tells_1 : decode cX1_tells 1 = .ok (.ifCond .lt 27, 3) := by decide +kernel
theorem dX1_tells_4 : decode cX1_tells 4 = .ok (.iload_n 1, 1) := by decide +kernel
theorem dX1_tells_5 : decode cX1_tells 5 = .ok (.bipush 60, 2) := by decide +kernel
theorem dX1_tells_7 : decode cX1_tells 7 = .ok (.if_icmp .gt 21, 3) := by decide +kernel
theorem dX1_tells_10 : decode cX1_tells 10 = .ok (.iload_n 2, 1) := by decide +kernel
theorem dX1_tells_11 : decode cX1_tells 11 = .ok (.ifCond .lt 17, 3) := by decide +kernel
theorem dX1_tells_14 : decode cX1_tells 14 = .ok (.iload_n 2, 1) := by decide +kernel
theorem dX1_tells_15 : decode cX1_tells 15 = .ok (.aload_n 0, 1) := by decide +kernel
theorem dX1_tells_16 : decode cX1_tells 16 = .ok (.getfield 9, 3) := by decide +kernel
theorem dX1_tells_19 : decode cX1_tells 19 = .ok (.iload_n 1, 1) := by decide +kernel
theorem dX1_tells_20 : decode cX1_tells 20 = .ok (.iaload, 1) := by decide +kernel
theorem dX1_tells_21 : decode cX1_tells 21 = .ok (.if_icmp .ge 7, 3) := by decide +kernel
theorem dX1_tells_24 : decode cX1_tells 24 = .ok (.iconst 1, 1) := by decide +kernel
theorem dX1_tells_25 : decode cX1_tells 25 = .ok (.goto 4, 3) := by decide +kernel
theorem dX1_tells_28 : decode cX1_tells 28 = .ok (.iconst 0, 1) := by decide +kernel
theorem dX1_tells_29 : decode cX1_tells 29 = .ok (.ireturn, 1) := by decide +kernel
set_option maxRecDepth 20000 in
theorem ggX1_write_X1_rowOf : GoodIn wsX1_write wsX1_rowOf := goodIn_r _ [5] (by decide +kernel) (by decide +kernel)
set_option maxRecDepth 20000 in
theorem gX1_write_X1_rowOf : GoodIn wsX1_write (va_wsS RX1 22 yX1_rowOf wsX1_rowOf) := goodIn_app (goodIn_of _ (by decide +kernel)) ggX1_write_X1_rowOf
theorem dX1_write_0 : decode cX1_write 0 = .ok (.iload_n 1, 1) := by decide +kernel
theorem dX1_write_1 : decode cX1_write 1 = .ok (.iload_n 2, 1) := by decide +kernel
theorem dX1_write_2 : decode cX1_write 2 = .ok (.invokestatic 22, 3) := by decide +kernel
theorem dX1_write_5 : decode cX1_write 5 = .ok (.istore 6, 2) := by decide +kernel
theorem dX1_write_7 : decode cX1_write 7 = .ok (.aload_n 0, 1) := by decide +kernel
theorem dX1_write_8 : decode cX1_write 8 = .ok (.getfield 15, 3) := by decide +kernel
theorem dX1_write_11 : decode cX1_write 11 = .ok (.iload 6, 2) := by decide +kernel
theorem dX1_write_13 : decode cX1_write 13 = .ok (.iconst 0, 1) := by decide +kernel
theorem dX1_write_14 : decode cX1_write 14 = .ok (.iadd, 1) := by decide +kernel
theorem dX1_write_15 : decode cX1_write 15 = .ok (.iload_n 3, 1) := by decide +kernel
theorem dX1_write_16 : decode cX1_write 16 = .ok (.iastore, 1) := by decide +kernel
theorem dX1_write_17 : decode cX1_write 17 = .ok (.aload_n 0, 1) := by decide +kernel
theorem dX1_write_18 : decode cX1_write 18 = .ok (.getfield 15, 3) := by decide +kernel
theorem dX1_write_21 : decode cX1_write 21 = .ok (.iload 6, 2) := by decide +kernel
theorem dX1_write_23 : decode cX1_write 23 = .ok (.iconst 1, 1) := by decide +kernel
theorem dX1_write_24 : decode cX1_write 24 = .ok (.iadd, 1) := by decide +kernel
theorem dX1_write_25 : decode cX1_write 25 = .ok (.iload 4, 2) := by decide +kernel
theorem dX1_write_27 : decode cX1_write 27 = .ok (.iastore, 1) := by decide +kernel
theorem dX1_write_28 : decode cX1_write 28 = .ok (.aload_n 0, 1) := by decide +kernel
theorem dX1_write_29 : decode cX1_write 29 = .ok (.getfield 15, 3) := by decide +kernel
theorem dX1_write_32 : decode cX1_write 32 = .ok (.iload 6, 2) := by decide +kernel
theorem dX1_write_34 : decode cX1_write 34 = .ok (.iconst 2, 1) := by decide +kernel
theorem dX1_write_35 : decode cX1_write 35 = .ok (.iadd, 1) := by decide +kernel
theorem dX1_write_36 : decode cX1_write 36 = .ok (.iload 5, 2) := by decide +kernel
theorem dX1_write_38 : decode cX1_write 38 = .ok (.iastore, 1) := by decide +kernel
theorem dX1_write_39 : decode cX1_write 39 = .ok (.return_, 1) := by decide +kernel
theorem dX1_close_0 : decode cX1_close 0 = .ok (.aload_n 0, 1) := by decide +kernel
theorem dX1_close_1 : decode cX1_close 1 = .ok (.getfield 9, 3) := by decide +kernel
theorem dX1_close_4 : decode cX1_close 4 = .ok (.iload_n 1, 1) := by decide +kernel
theorem dX1_close_5 : decode cX1_close 5 = .ok (.iload_n 2, 1) := by decide +kernel
theorem dX1_close_6 : decode cX1_close 6 = .ok (.iastore, 1) := by decide +kernel
theorem dX1_close_7 : decode cX1_close 7 = .ok (.aload_n 0, 1) := by decide +kernel
theorem dX1_close_8 : decode cX1_close 8 = .ok (.dup, 1) := by decide +kernel
theorem dX1_close_9 : decode cX1_close 9 = .ok (.getfield 26, 3) := by decide +kernel
theorem dX1_close_12 : decode cX1_close 12 = .ok (.iconst 1, 1) := by decide +kernel
theorem dX1_close_13 : decode cX1_close 13 = .ok (.iadd, 1) := by decide +kernel
theorem dX1_close_14 : decode cX1_close 14 = .ok (.putfield 26, 3) := by decide +kernel
theorem dX1_close_17 : decode cX1_close 17 = .ok (.return_, 1) := by decide +kernel
set_option maxRecDepth 20000 in
theorem ggX1_read_X1_rowOf : GoodIn wsX1_read wsX1_rowOf := goodIn_r _ [5] (by decide +kernel) (by decide +kernel)
set_option maxRecDepth 20000 in
theorem gX1_read_X1_rowOf : GoodIn wsX1_read (va_wsS RX1 22 yX1_rowOf wsX1_rowOf) := goodIn_app (goodIn_of _ (by decide +kernel)) ggX1_read_X1_rowOf
theorem dX1_read_0 : decode cX1_read 0 = .ok (.aload_n 0, 1) := by decide +kernel
theorem dX1_read_1 : decode cX1_read 1 = .ok (.getfield 15, 3) := by decide +kernel
theorem dX1_read_4 : decode cX1_read 4 = .ok (.iload_n 1, 1) := by decide +kernel
theorem dX1_read_5 : decode cX1_read 5 = .ok (.iload_n 2, 1) := by decide +kernel
theorem dX1_read_6 : decode cX1_read 6 = .ok (.invokestatic 22, 3) := by decide +kernel
theorem dX1_read_9 : decode cX1_read 9 = .ok (.iload_n 3, 1) := by decide +kernel
theorem dX1_read_10 : decode cX1_read 10 = .ok (.iadd, 1) := by decide +kernel
theorem dX1_read_11 : decode cX1_read 11 = .ok (.iaload, 1) := by decide +kernel
theorem dX1_read_12 : decode cX1_read 12 = .ok (.ireturn, 1) := by decide +kernel
theorem dX1_rowOf_0 : decode cX1_rowOf 0 = .ok (.iload_n 0, 1) := by decide +kernel
theorem dX1_rowOf_1 : decode cX1_rowOf 1 = .ok (.bipush 6, 2) := by decide +kernel
theorem dX1_rowOf_3 : decode cX1_rowOf 3 = .ok (.imul, 1) := by decide +kernel
theorem dX1_rowOf_4 : decode cX1_rowOf 4 = .ok (.iload_n 1, 1) := by decide +kernel
theorem dX1_rowOf_5 : decode cX1_rowOf 5 = .ok (.iadd, 1) := by decide +kernel
theorem dX1_rowOf_6 : decode cX1_rowOf 6 = .ok (.iconst 3, 1) := by decide +kernel
theorem dX1_rowOf_7 : decode cX1_rowOf 7 = .ok (.imul, 1) := by decide +kernel
theorem dX1_rowOf_8 : decode cX1_rowOf 8 = .ok (.ireturn, 1) := by decide +kernel
theorem dX2_init_0 : decode cX2_init 0 = .ok (.aload_n 0, 1) := by decide +kernel
theorem dX2_init_1 : decode cX2_init 1 = .ok (.invokespecial 3, 3) := by decide +kernel
theorem dX2_init_4 : decode cX2_init 4 = .ok (.aload_n 0, 1) := by decide +kernel
theorem dX2_init_5 : decode cX2_init 5 = .ok (.bipush 60, 2) := by decide +kernel
theorem dX2_init_7 : decode cX2_init 7 = .ok (.newarray .int, 2) := by decide +kernel
theorem dX2_init_9 : decode cX2_init 9 = .ok (.putfield 9, 3) := by decide +kernel
theorem dX2_init_12 : decode cX2_init 12 = .ok (.aload_n 0, 1) := by decide +kernel
theorem dX2_init_13 : decode cX2_init 13 = .ok (.bipush (-5), 2) := by decide +kernel
theorem dX2_init_15 : decode cX2_init 15 = .ok (.putfield 15, 3) := by decide +kernel
theorem dX2_init_18 : decode cX2_init 18 = .ok (.return_, 1) := by decide +kernel
theorem dX2_greatestOf_0 : decode cX2_greatestOf 0 = .ok (.iload_n 0, 1) := by decide +kernel
theorem dX2_greatestOf_1 : decode cX2_greatestOf 1 = .ok (.iconst 4, 1) := by decide +kernel
theorem dX2_greatestOf_2 : decode cX2_greatestOf 2 = .ok (.if_icmp .ne 8, 3) := by decide +kernel
theorem dX2_greatestOf_5 : decode cX2_greatestOf 5 = .ok (.bipush 10, 2) := by decide +kernel
theorem dX2_greatestOf_7 : decode cX2_greatestOf 7 = .ok (.goto 5, 3) := by decide +kernel
theorem dX2_greatestOf_10 : decode cX2_greatestOf 10 = .ok (.bipush 100, 2) := by decide +kernel
theorem dX2_greatestOf_12 : decode cX2_greatestOf 12 = .ok (.ireturn, 1) := by decide +kernel
theorem dX2_levelOfDanger_0 : decode cX2_levelOfDanger 0 = .ok (.iload_n 0, 1) := by decide +kernel
theorem dX2_levelOfDanger_1 : decode cX2_levelOfDanger 1 = .ok (.bipush 10, 2) := by decide +kernel
theorem dX2_levelOfDanger_3 : decode cX2_levelOfDanger 3 = .ok (.if_icmp .ge 5, 3) := by decide +kernel
theorem dX2_levelOfDanger_6 : decode cX2_levelOfDanger 6 = .ok (.iconst 1, 1) := by decide +kernel
theorem dX2_levelOfDanger_7 : decode cX2_levelOfDanger 7 = .ok (.ireturn, 1) := by decide +kernel
theorem dX2_levelOfDanger_8 : decode cX2_levelOfDanger 8 = .ok (.iload_n 0, 1) := by decide +kernel
theorem dX2_levelOfDanger_9 : decode cX2_levelOfDanger 9 = .ok (.bipush 30, 2) := by decide +kernel
theorem dX2_levelOfDanger_11 : decode cX2_levelOfDanger 11 = .ok (.if_icmp .ge 5, 3) := by decide +kernel
theorem dX2_levelOfDanger_14 : decode cX2_levelOfDanger 14 = .ok (.iconst 2, 1) := by decide +kernel
theorem dX2_levelOfDanger_15 : decode cX2_levelOfDanger 15 = .ok (.ireturn, 1) := by decide +kernel
theorem dX2_levelOfDanger_16 : decode cX2_levelOfDanger 16 = .ok (.iload_n 0, 1) := by decide +kernel
theorem dX2_levelOfDanger_17 : decode cX2_levelOfDanger 17 = .ok (.bipush 55, 2) := by decide +kernel
theorem dX2_levelOfDanger_19 : decode cX2_levelOfDanger 19 = .ok (.if_icmp .ge 5, 3) := by decide +kernel
theorem dX2_levelOfDanger_22 : decode cX2_levelOfDanger 22 = .ok (.iconst 3, 1) := by decide +kernel
theorem dX2_levelOfDanger_23 : decode cX2_levelOfDanger 23 = .ok (.ireturn, 1) := by decide +kernel
theorem dX2_levelOfDanger_24 : decode cX2_levelOfDanger 24 = .ok (.iload_n 0, 1) := by decide +kernel
theorem dX2_levelOfDanger_25 : decode cX2_levelOfDanger 25 = .ok (.bipush 80, 2) := by decide +kernel
theorem dX2_levelOfDanger_27 : decode cX2_levelOfDanger 27 = .ok (.if_icmp .ge 7, 3) := by decide +kernel
theorem dX2_levelOfDanger_30 : decode cX2_levelOfDanger 30 = .ok (.iconst 4, 1) := by decide +kernel
theorem dX2_levelOfDanger_31 : decode cX2_levelOfDanger 31 = .ok (.goto 4, 3) := by decide +kernel
theorem dX2_levelOfDanger_34 : decode cX2_levelOfDanger 34 = .ok (.iconst 5, 1) := by decide +kernel
theorem dX2_levelOfDanger_35 : decode cX2_levelOfDanger 35 = .ok (.ireturn, 1) := by decide +kernel
theorem dX2_numberAt_0 : decode cX2_numberAt 0 = .ok (.aload_n 0, 1) := by decide +kernel
theorem dX2_numberAt_1 : decode cX2_numberAt 1 = .ok (.getfield 9, 3) := by decide +kernel
theorem dX2_numberAt_4 : decode cX2_numberAt 4 = .ok (.iload_n 1, 1) := by decide +kernel
theorem dX2_numberAt_5 : decode cX2_numberAt 5 = .ok (.iconst 5, 1) := by decide +kernel
theorem dX2_numberAt_6 : decode cX2_numberAt 6 = .ok (.imul, 1) := by decide +kernel
theorem dX2_numberAt_7 : decode cX2_numberAt 7 = .ok (.iload_n 2, 1) := by decide +kernel
theorem dX2_numberAt_8 : decode cX2_numberAt 8 = .ok (.iadd, 1) := by decide +kernel
theorem dX2_numberAt_9 : decode cX2_numberAt 9 = .ok (.iaload, 1) := by decide +kernel
theorem dX2_numberAt_10 : decode cX2_numberAt 10 = .ok (.ireturn, 1) := by decide +kernel
set_option maxRecDepth 20000 in
theorem ggX2_put_X2_greatestOf : GoodIn wsX2_put wsX2_greatestOf := goodIn_r _ [9] (by decide +kernel) (by decide +kernel)
set_option maxRecDepth 20000 in
theorem gX2_put_X2_greatestOf : GoodIn wsX2_put (va_wsS RX2 19 yX2_greatestOf wsX2_greatestOf) := goodIn_app (goodIn_of _ (by decide +kernel)) ggX2_put_X2_greatestOf
theorem dX2_put_0 : decode cX2_put 0 = .ok (.aload_n 0, 1) := by decide +kernel
theorem dX2_put_1 : decode cX2_put 1 = .ok (.getfield 9, 3) := by decide +kernel
theorem dX2_put_4 : decode cX2_put 4 = .ok (.iload_n 1, 1) := by decide +kernel
theorem dX2_put_5 : decode cX2_put 5 = .ok (.iconst 5, 1) := by decide +kernel
theorem dX2_put_6 : decode cX2_put 6 = .ok (.imul, 1) := by decide +kernel
theorem dX2_put_7 : decode cX2_put 7 = .ok (.iload_n 2, 1) := by decide +kernel
theorem dX2_put_8 : decode cX2_put 8 = .ok (.iadd, 1) := by decide +kernel
theorem dX2_put_9 : decode cX2_put 9 = .ok (.iload_n 3, 1) := by decide +kernel
theorem dX2_put_10 : decode cX2_put 10 = .ok (.iload_n 2, 1) := by decide +kernel
theorem dX2_put_11 : decode cX2_put 11 = .ok (.invokestatic 19, 3) := by decide +kernel
theorem dX2_put_14 : decode cX2_put 14 = .ok (.invokestatic 23, 3) := by decide +kernel
theorem dX2_put_17 : decode cX2_put 17 = .ok (.iastore, 1) := by decide +kernel
theorem dX2_put_18 : decode cX2_put 18 = .ok (.return_, 1) := by decide +kernel
theorem dX2_tellWeather_0 : decode cX2_tellWeather 0 = .ok (.aload_n 0, 1) := by decide +kernel
theorem dX2_tellWeather_1 : decode cX2_tellWeather 1 = .ok (.iconst 1, 1) := by decide +kernel
theorem dX2_tellWeather_2 : decode cX2_tellWeather 2 = .ok (.putfield 35, 3) := by decide +kernel
theorem dX2_tellWeather_5 : decode cX2_tellWeather 5 = .ok (.aload_n 0, 1) := by decide +kernel
theorem dX2_tellWeather_6 : decode cX2_tellWeather 6 = .ok (.iload_n 1, 1) := by decide +kernel
theorem dX2_tellWeather_7 : decode cX2_tellWeather 7 = .ok (.putfield 39, 3) := by decide +kernel
theorem dX2_tellWeather_10 : decode cX2_tellWeather 10 = .ok (.aload_n 0, 1) := by decide +kernel
theorem dX2_tellWeather_11 : decode cX2_tellWeather 11 = .ok (.iload_n 2, 1) := by decide +kernel
theorem dX2_tellWeather_12 : decode cX2_tellWeather 12 = .ok (.putfield 42, 3) := by decide +kernel
theorem dX2_tellWeather_15 : decode cX2_tellWeather 15 = .ok (.aload_n 0, 1) := by decide +kernel
theorem dX2_tellWeather_16 : decode cX2_tellWeather 16 = .ok (.iload_n 3, 1) := by decide +kernel
theorem dX2_tellWeather_17 : decode cX2_tellWeather 17 = .ok (.putfield 45, 3) := by decide +kernel
theorem dX2_tellWeather_20 : decode cX2_tellWeather 20 = .ok (.aload_n 0, 1) := by decide +kernel
theorem dX2_tellWeather_21 : decode cX2_tellWeather 21 = .ok (.iload 4, 2) := by decide +kernel
theorem dX2_tellWeather_23 : decode cX2_tellWeather 23 = .ok (.putfield 15, 3) := by decide +kernel
theorem dX2_tellWeather_26 : decode cX2_tellWeather 26 = .ok (.return_, 1) := by decide +kernel
set_option maxRecDepth 20000 in
theorem ggX2_forgetWeather_X2_tellWeather : GoodIn wsX2_forgetWeather wsX2_tellWeather := goodIn_r _ [6, 1, 7, 8, 9, 10, 11, 12, 13, 14, 15, 16] (by decide +kernel) (by decide +kernel)
set_option maxRecDepth 20000 in
theorem gX2_forgetWeather_X2_tellWeather : GoodIn wsX2_forgetWeather (wsV RX2 48 RX2 yX2_tellWeather wsX2_tellWeather) := goodIn_app (goodIn_of _ (by decide +kernel)) ggX2_forgetWeather_X2_tellWeather
theorem dX2_forgetWeather_0 : decode cX2_forgetWeather 0 = .ok (.aload_n 0, 1) := by decide +kernel
theorem dX2_forgetWeather_1 : decode cX2_forgetWeather 1 = .ok (.iconst 0, 1) := by decide +kernel
theorem dX2_forgetWeather_2 : decode cX2_forgetWeather 2 = .ok (.iconst 0, 1) := by decide +kernel
theorem dX2_forgetWeather_3 : decode cX2_forgetWeather 3 = .ok (.iconst 0, 1) := by decide +kernel
theorem dX2_forgetWeather_4 : decode cX2_forgetWeather 4 = .ok (.bipush (-5), 2) := by decide +kernel
theorem dX2_forgetWeather_6 : decode cX2_forgetWeather 6 = .ok (.invokevirtual 48, 3) := by decide +kernel
theorem dX2_forgetWeather_9 : decode cX2_forgetWeather 9 = .ok (.aload_n 0, 1) := by decide +kernel
theorem dX2_forgetWeather_10 : decode cX2_forgetWeather 10 = .ok (.iconst 0, 1) := by decide +kernel
theorem dX2_forgetWeather_11 : decode cX2_forgetWeather 11 = .ok (.putfield 35, 3) := by decide +kernel
theorem dX2_forgetWeather_14 : decode cX2_forgetWeather 14 = .ok (.return_, 1) := by decide +kernel
set_option maxRecDepth 20000 in
theorem ggX2_passDay_X2_settle : GoodIn wsX2_passDay wsX2_settle := goodIn_r _ [7, 2, 8, 9, 10, 6, 11, 12, 13, 14, 15, 16, 17, 18, 19, 20, 21, 22, 23, 24, 25, 26, 27, 46, 47, 48, 49, 50, 51] (by decide +kernel) (by decide +kernel)
set_option maxRecDepth 20000 in
theorem gX2_passDay_X2_settle : GoodIn wsX2_passDay (wsV RX2 52 RX2 yX2_settle wsX2_settle) := goodIn_app (goodIn_of _ (by decide +kernel)) ggX2_passDay_X2_settle
set_option maxRecDepth 20000 in
theorem ggX2_passDay_X2_blow : GoodIn wsX2_passDay wsX2_blow := goodIn_r _ [31, 32, 17, 18, 19, 20, 33, 34, 35, 36, 6, 37, 8, 9, 10, 11, 12, 13, 14, 15, 16, 21, 22, 23, 24, 25, 26, 27, 46, 47, 48, 49, 50, 51] (by decide +kernel) (by decide +kernel)
set_option maxRecDepth 20000 in
theorem gX2_passDay_X2_blow : GoodIn wsX2_passDay (wsV RX2 56 RX2 yX2_blow wsX2_blow) := goodIn_app (goodIn_of _ (by decide +kernel)) ggX2_passDay_X2_blow
set_option maxRecDepth 20000 in
theorem ggX2_passDay_X2_buryHoar : GoodIn wsX2_passDay wsX2_buryHoar := goodIn_r _ [41, 32, 8, 9, 10, 6, 11, 12, 24, 25, 26, 27, 13, 14, 15, 16, 17, 18, 19, 20, 21, 22, 23, 46, 47, 48, 49, 50, 51] (by decide +kernel) (by decide +kernel)
set_option maxRecDepth 20000 in
theorem gX2_passDay_X2_buryHoar : GoodIn wsX2_passDay (wsV RX2 60 RX2 yX2_buryHoar wsX2_buryHoar) := goodIn_app (goodIn_of _ (by decide +kernel)) ggX2_passDay_X2_buryHoar
set_option maxRecDepth 20000 in
theorem ggX2_passDay_X2_thaw : GoodIn wsX2_passDay wsX2_thaw := goodIn_r _ [45, 34, 35, 36, 6, 37, 8, 9, 10, 11, 12, 13, 14, 15, 16, 17, 18, 19, 20, 21, 22, 23, 24, 25, 26, 27, 46, 47, 48, 49, 50, 51] (by decide +kernel) (by decide +kernel)
set_option maxRecDepth 20000 in
theorem gX2_passDay_X2_thaw : GoodIn wsX2_passDay (wsV RX2 63 RX2 yX2_thaw wsX2_thaw) := goodIn_app (goodIn_of _ (by decide +kernel)) ggX2_passDay_X2_thaw
theorem dX2_passDay_0 : decode cX2_passDay 0 = .ok (.iconst 0, 1) := by decide +kernel
theorem dX2_passDay_1 : decode cX2_passDay 1 = .ok (.istore_n 1, 1) := by decide +kernel
theorem dX2_passDay_2 : decode cX2_passDay 2 = .ok (.iload_n 1, 1) := by decide +kernel
theorem dX2_passDay_3 : decode cX2_passDay 3 = .ok (.bipush 12, 2) := by decide +kernel
theorem dX2_passDay_5 : decode cX2_passDay 5 = .ok (.if_icmp .ge 62, 3) := by decide +kernel
theorem dX2_passDay_8 : decode cX2_passDay 8 = .ok (.aload_n 0, 1) := by decide +kernel
theorem dX2_passDay_9 : decode cX2_passDay 9 = .ok (.getfield 15, 3) := by decide +kernel
theorem dX2_passDay_12 : decode cX2_passDay 12 = .ok (.bipush 6, 2) := by decide +kernel
theorem dX2_passDay_14 : decode cX2_passDay 14 = .ok (.iconst 1, 1) := by decide +kernel
theorem dX2_passDay_15 : decode cX2_passDay 15 = .ok (.iload_n 1, 1) := by decide +kernel
theorem dX2_passDay_16 : decode cX2_passDay 16 = .ok (.iconst 4, 1) := by decide +kernel
theorem dX2_passDay_17 : decode cX2_passDay 17 = .ok (.idiv, 1) := by decide +kernel
theorem dX2_passDay_18 : decode cX2_passDay 18 = .ok (.isub, 1) := by decide +kernel
theorem dX2_passDay_19 : decode cX2_passDay 19 = .ok (.imul, 1) := by decide +kernel
theorem dX2_passDay_20 : decode cX2_passDay 20 = .ok (.iadd, 1) := by decide +kernel
theorem dX2_passDay_21 : decode cX2_passDay 21 = .ok (.istore_n 2, 1) := by decide +kernel
theorem dX2_passDay_22 : decode cX2_passDay 22 = .ok (.iload_n 2, 1) := by decide +kernel
theorem dX2_passDay_23 : decode cX2_passDay 23 = .ok (.iconst 1, 1) := by decide +kernel
theorem dX2_passDay_24 : decode cX2_passDay 24 = .ok (.if_icmp .gt 10, 3) := by decide +kernel
theorem dX2_passDay_27 : decode cX2_passDay 27 = .ok (.aload_n 0, 1) := by decide +kernel
theorem dX2_passDay_28 : decode cX2_passDay 28 = .ok (.getfield 39, 3) := by decide +kernel
theorem dX2_passDay_31 : decode cX2_passDay 31 = .ok (.goto 4, 3) := by decide +kernel
theorem dX2_passDay_34 : decode cX2_passDay 34 = .ok (.iconst 0, 1) := by decide +kernel
theorem dX2_passDay_35 : decode cX2_passDay 35 = .ok (.istore_n 3, 1) := by decide +kernel
theorem dX2_passDay_36 : decode cX2_passDay 36 = .ok (.aload_n 0, 1) := by decide +kernel
theorem dX2_passDay_37 : decode cX2_passDay 37 = .ok (.iload_n 1, 1) := by decide +kernel
theorem dX2_passDay_38 : decode cX2_passDay 38 = .ok (.iload_n 2, 1) := by decide +kernel
theorem dX2_passDay_39 : decode cX2_passDay 39 = .ok (.iload_n 3, 1) := by decide +kernel
theorem dX2_passDay_40 : decode cX2_passDay 40 = .ok (.invokevirtual 52, 3) := by decide +kernel
theorem dX2_passDay_43 : decode cX2_passDay 43 = .ok (.aload_n 0, 1) := by decide +kernel
theorem dX2_passDay_44 : decode cX2_passDay 44 = .ok (.iload_n 1, 1) := by decide +kernel
theorem dX2_passDay_45 : decode cX2_passDay 45 = .ok (.invokevirtual 56, 3) := by decide +kernel
theorem dX2_passDay_48 : decode cX2_passDay 48 = .ok (.aload_n 0, 1) := by decide +kernel
theorem dX2_passDay_49 : decode cX2_passDay 49 = .ok (.iload_n 1, 1) := by decide +kernel
theorem dX2_passDay_50 : decode cX2_passDay 50 = .ok (.iload_n 2, 1) := by decide +kernel
theorem dX2_passDay_51 : decode cX2_passDay 51 = .ok (.iload_n 3, 1) := by decide +kernel
theorem dX2_passDay_52 : decode cX2_passDay 52 = .ok (.invokevirtual 60, 3) := by decide +kernel
theorem dX2_passDay_55 : decode cX2_passDay 55 = .ok (.aload_n 0, 1) := by decide +kernel
theorem dX2_passDay_56 : decode cX2_passDay 56 = .ok (.iload_n 1, 1) := by decide +kernel
theorem dX2_passDay_57 : decode cX2_passDay 57 = .ok (.iload_n 2, 1) := by decide +kernel
theorem dX2_passDay_58 : decode cX2_passDay 58 = .ok (.invokevirtual 63, 3) := by decide +kernel
theorem dX2_passDay_61 : decode cX2_passDay 61 = .ok (.iinc 1 1, 3) := by decide +kernel
theorem dX2_passDay_64 : decode cX2_passDay 64 = .ok (.goto (-62), 3) := by decide +kernel
theorem dX2_passDay_67 : decode cX2_passDay 67 = .ok (.return_, 1) := by decide +kernel
set_option maxRecDepth 20000 in
theorem ggX2_grow_X2_numberAt : GoodIn wsX2_grow wsX2_numberAt := goodIn_r _ [5, 6, 18, 19, 20, 21, 22, 23] (by decide +kernel) (by decide +kernel)
set_option maxRecDepth 20000 in
theorem gX2_grow_X2_numberAt : GoodIn wsX2_grow (wsV RX2 67 RX2 yX2_numberAt wsX2_numberAt) := goodIn_app (goodIn_of _ (by decide +kernel)) ggX2_grow_X2_numberAt
set_option maxRecDepth 20000 in
theorem ggX2_grow_X2_put : GoodIn wsX2_grow wsX2_put := goodIn_r _ [10, 6, 11, 12, 13, 14, 15, 16, 4, 17, 18, 19, 20, 21, 22, 23] (by decide +kernel) (by decide +kernel)
set_option maxRecDepth 20000 in
theorem gX2_grow_X2_put : GoodIn wsX2_grow (wsV RX2 70 RX2 yX2_put wsX2_put) := goodIn_app (goodIn_of _ (by decide +kernel)) ggX2_grow_X2_put
theorem dX2_grow_0 : decode cX2_grow 0 = .ok (.aload_n 0, 1) := by decide +kernel
theorem dX2_grow_1 : decode cX2_grow 1 = .ok (.iload_n 1, 1) := by decide +kernel
theorem dX2_grow_2 : decode cX2_grow 2 = .ok (.iload_n 2, 1) := by decide +kernel
theorem dX2_grow_3 : decode cX2_grow 3 = .ok (.aload_n 0, 1) := by decide +kernel
theorem dX2_grow_4 : decode cX2_grow 4 = .ok (.iload_n 1, 1) := by decide +kernel
theorem dX2_grow_5 : decode cX2_grow 5 = .ok (.iload_n 2, 1) := by decide +kernel
theorem dX2_grow_6 : decode cX2_grow 6 = .ok (.invokevirtual 67, 3) := by decide +kernel
theorem dX2_grow_9 : decode cX2_grow 9 = .ok (.iload_n 3, 1) := by decide +kernel
theorem dX2_grow_10 : decode cX2_grow 10 = .ok (.iadd, 1) := by decide +kernel
theorem dX2_grow_11 : decode cX2_grow 11 = .ok (.invokevirtual 70, 3) := by decide +kernel
theorem dX2_grow_14 : decode cX2_grow 14 = .ok (.return_, 1) := by decide +kernel
set_option maxRecDepth 20000 in
theorem ggX2_keepPercent_X2_numberAt : GoodIn wsX2_keepPercent wsX2_numberAt := goodIn_r _ [5, 6, 18, 19, 20, 21, 22, 23] (by decide +kernel) (by decide +kernel)
set_option maxRecDepth 20000 in
theorem gX2_keepPercent_X2_numberAt : GoodIn wsX2_keepPercent (wsV RX2 67 RX2 yX2_numberAt wsX2_numberAt) := goodIn_app (goodIn_of _ (by decide +kernel)) ggX2_keepPercent_X2_numberAt
set_option maxRecDepth 20000 in
theorem ggX2_keepPercent_X2_put : GoodIn wsX2_keepPercent wsX2_put := goodIn_r _ [10, 6, 11, 12, 13, 14, 15, 16, 4, 17, 18, 19, 20, 21, 22, 23] (by decide +kernel) (by decide +kernel)
set_option maxRecDepth 20000 in
theorem gX2_keepPercent_X2_put : GoodIn wsX2_keepPercent (wsV RX2 70 RX2 yX2_put wsX2_put) := goodIn_app (goodIn_of _ (by decide +kernel)) ggX2_keepPercent_X2_put
theorem dX2_keepPercent_0 : decode cX2_keepPercent 0 = .ok (.aload_n 0, 1) := by decide +kernel
theorem dX2_keepPercent_1 : decode cX2_keepPercent 1 = .ok (.iload_n 1, 1) := by decide +kernel
theorem dX2_keepPercent_2 : decode cX2_keepPercent 2 = .ok (.iload_n 2, 1) := by decide +kernel
theorem dX2_keepPercent_3 : decode cX2_keepPercent 3 = .ok (.aload_n 0, 1) := by decide +kernel
theorem dX2_keepPercent_4 : decode cX2_keepPercent 4 = .ok (.iload_n 1, 1) := by decide +kernel
theorem dX2_keepPercent_5 : decode cX2_keepPercent 5 = .ok (.iload_n 2, 1) := by decide +kernel
theorem dX2_keepPercent_6 : decode cX2_keepPercent 6 = .ok (.invokevirtual 67, 3) := by decide +kernel
theorem dX2_keepPercent_9 : decode cX2_keepPercent 9 = .ok (.iload_n 3, 1) := by decide +kernel
theorem dX2_keepPercent_10 : decode cX2_keepPercent 10 = .ok (.imul, 1) := by decide +kernel
theorem dX2_keepPercent_11 : decode cX2_keepPercent 11 = .ok (.bipush 100, 2) := by decide +kernel
theorem dX2_keepPercent_13 : decode cX2_keepPercent 13 = .ok (.idiv, 1) := by decide +kernel
theorem dX2_keepPercent_14 : decode cX2_keepPercent 14 = .ok (.invokevirtual 70, 3) := by decide +kernel
theorem dX2_keepPercent_17 : decode cX2_keepPercent 17 = .ok (.return_, 1) := by decide +kernel
set_option maxRecDepth 20000 in
theorem ggX2_settle_X2_numberAt : GoodIn wsX2_settle wsX2_numberAt := goodIn_r _ [6, 7, 23, 24, 25, 26, 27, 28] (by decide +kernel) (by decide +kernel)
set_option maxRecDepth 20000 in
theorem gX2_settle_X2_numberAt : GoodIn wsX2_settle (wsV RX2 67 RX2 yX2_numberAt wsX2_numberAt) := goodIn_app (goodIn_of _ (by decide +kernel)) ggX2_settle_X2_numberAt
set_option maxRecDepth 20000 in
theorem ggX2_settle_X2_put : GoodIn wsX2_settle wsX2_put := goodIn_r _ [11, 7, 12, 13, 14, 15, 16, 17, 5, 18, 23, 24, 25, 26, 27, 28] (by decide +kernel) (by decide +kernel)
set_option maxRecDepth 20000 in
theorem gX2_settle_X2_put : GoodIn wsX2_settle (wsV RX2 70 RX2 yX2_put wsX2_put) := goodIn_app (goodIn_of _ (by decide +kernel)) ggX2_settle_X2_put
set_option maxRecDepth 20000 in
theorem ggX2_settle_X2_grow : GoodIn wsX2_settle wsX2_grow := goodIn_r _ [22, 2, 3, 4, 5, 6, 7, 8, 9, 10, 11, 12, 13, 14, 15, 16, 17, 18, 23, 24, 25, 26, 27, 28] (by decide +kernel) (by decide +kernel)
set_option maxRecDepth 20000 in
theorem gX2_settle_X2_grow : GoodIn wsX2_settle (wsV RX2 73 RX2 yX2_grow wsX2_grow) := goodIn_app (goodIn_of _ (by decide +kernel)) ggX2_settle_X2_grow
theorem dX2_settle_0 : decode cX2_settle 0 = .ok (.aload_n 0, 1) := by decide +kernel
theorem dX2_settle_1 : decode cX2_settle 1 = .ok (.iload_n 1, 1) := by decide +kernel
theorem dX2_settle_2 : decode cX2_settle 2 = .ok (.iconst 0, 1) := by decide +kernel
theorem dX2_settle_3 : decode cX2_settle 3 = .ok (.aload_n 0, 1) := by decide +kernel
theorem dX2_settle_4 : decode cX2_settle 4 = .ok (.iload_n 1, 1) := by decide +kernel
theorem dX2_settle_5 : decode cX2_settle 5 = .ok (.iconst 0, 1) := by decide +kernel
theorem dX2_settle_6 : decode cX2_settle 6 = .ok (.invokevirtual 67, 3) := by decide +kernel
theorem dX2_settle_9 : decode cX2_settle 9 = .ok (.bipush 6, 2) := by decide +kernel
theorem dX2_settle_11 : decode cX2_settle 11 = .ok (.imul, 1) := by decide +kernel
theorem dX2_settle_12 : decode cX2_settle 12 = .ok (.bipush 10, 2) := by decide +kernel
theorem dX2_settle_14 : decode cX2_settle 14 = .ok (.idiv, 1) := by decide +kernel
theorem dX2_settle_15 : decode cX2_settle 15 = .ok (.iload_n 3, 1) := by decide +kernel
theorem dX2_settle_16 : decode cX2_settle 16 = .ok (.iadd, 1) := by decide +kernel
theorem dX2_settle_17 : decode cX2_settle 17 = .ok (.invokevirtual 70, 3) := by decide +kernel
theorem dX2_settle_20 : decode cX2_settle 20 = .ok (.iload_n 2, 1) := by decide +kernel
theorem dX2_settle_21 : decode cX2_settle 21 = .ok (.iconst 1, 1) := by decide +kernel
theorem dX2_settle_22 : decode cX2_settle 22 = .ok (.if_icmp .le 15, 3) := by decide +kernel
theorem dX2_settle_25 : decode cX2_settle 25 = .ok (.aload_n 0, 1) := by decide +kernel
theorem dX2_settle_26 : decode cX2_settle 26 = .ok (.iload_n 1, 1) := by decide +kernel
theorem dX2_settle_27 : decode cX2_settle 27 = .ok (.iconst 3, 1) := by decide +kernel
theorem dX2_settle_28 : decode cX2_settle 28 = .ok (.aload_n 0, 1) := by decide +kernel
theorem dX2_settle_29 : decode cX2_settle 29 = .ok (.getfield 39, 3) := by decide +kernel
theorem dX2_settle_32 : decode cX2_settle 32 = .ok (.iconst 2, 1) := by decide +kernel
theorem dX2_settle_33 : decode cX2_settle 33 = .ok (.idiv, 1) := by decide +kernel
theorem dX2_settle_34 : decode cX2_settle 34 = .ok (.invokevirtual 73, 3) := by decide +kernel
theorem dX2_settle_37 : decode cX2_settle 37 = .ok (.return_, 1) := by decide +kernel
set_option maxRecDepth 20000 in
theorem ggX2_blow_X2_keepPercent : GoodIn wsX2_blow wsX2_keepPercent := goodIn_r _ [11, 12, 13, 14, 10, 15, 16, 17, 18, 19, 20, 2, 3, 4, 5, 21, 22, 23, 28, 29, 30, 31, 32, 33] (by decide +kernel) (by decide +kernel)
set_option maxRecDepth 20000 in
theorem gX2_blow_X2_keepPercent : GoodIn wsX2_blow (wsV RX2 76 RX2 yX2_keepPercent wsX2_keepPercent) := goodIn_app (goodIn_of _ (by decide +kernel)) ggX2_blow_X2_keepPercent
set_option maxRecDepth 20000 in
theorem ggX2_blow_X2_numberAt : GoodIn wsX2_blow wsX2_numberAt := goodIn_r _ [15, 16, 28, 29, 30, 31, 32, 33] (by decide +kernel) (by decide +kernel)
set_option maxRecDepth 20000 in
theorem gX2_blow_X2_numberAt : GoodIn wsX2_blow (wsV RX2 67 RX2 yX2_numberAt wsX2_numberAt) := goodIn_app (goodIn_of _ (by decide +kernel)) ggX2_blow_X2_numberAt
set_option maxRecDepth 20000 in
theorem ggX2_blow_X2_grow : GoodIn wsX2_blow wsX2_grow := goodIn_r _ [27, 12, 13, 14, 10, 15, 16, 17, 18, 19, 20, 2, 3, 4, 5, 21, 22, 23, 28, 29, 30, 31, 32, 33] (by decide +kernel) (by decide +kernel)
set_option maxRecDepth 20000 in
theorem gX2_blow_X2_grow : GoodIn wsX2_blow (wsV RX2 73 RX2 yX2_grow wsX2_grow) := goodIn_app (goodIn_of _ (by decide +kernel)) ggX2_blow_X2_grow
theorem dX2_blow_0 : decode cX2_blow 0 = .ok (.aload_n 0, 1) := by decide +kernel
theorem dX2_blow_1 : decode cX2_blow 1 = .ok (.getfield 42, 3) := by decide +kernel
theorem dX2_blow_4 : decode cX2_blow 4 = .ok (.bipush 25, 2) := by decide +kernel
theorem dX2_blow_6 : decode cX2_blow 6 = .ok (.if_icmp .ge 12, 3) := by decide +kernel
theorem dX2_blow_9 : decode cX2_blow 9 = .ok (.aload_n 0, 1) := by decide +kernel
theorem dX2_blow_10 : decode cX2_blow 10 = .ok (.iload_n 1, 1) := by decide +kernel
theorem dX2_blow_11 : decode cX2_blow 11 = .ok (.iconst 1, 1) := by decide +kernel
theorem dX2_blow_12 : decode cX2_blow 12 = .ok (.bipush 80, 2) := by decide +kernel
theorem dX2_blow_14 : decode cX2_blow 14 = .ok (.invokevirtual 76, 3) := by decide +kernel
theorem dX2_blow_17 : decode cX2_blow 17 = .ok (.return_, 1) := by decide +kernel
theorem dX2_blow_18 : decode cX2_blow 18 = .ok (.aload_n 0, 1) := by decide +kernel
theorem dX2_blow_19 : decode cX2_blow 19 = .ok (.iload_n 1, 1) := by decide +kernel
theorem dX2_blow_20 : decode cX2_blow 20 = .ok (.iconst 0, 1) := by decide +kernel
theorem dX2_blow_21 : decode cX2_blow 21 = .ok (.invokevirtual 67, 3) := by decide +kernel
theorem dX2_blow_24 : decode cX2_blow 24 = .ok (.bipush 40, 2) := by decide +kernel
theorem dX2_blow_26 : decode cX2_blow 26 = .ok (.invokestatic 23, 3) := by decide +kernel
theorem dX2_blow_29 : decode cX2_blow 29 = .ok (.aload_n 0, 1) := by decide +kernel
theorem dX2_blow_30 : decode cX2_blow 30 = .ok (.getfield 42, 3) := by decide +kernel
theorem dX2_blow_33 : decode cX2_blow 33 = .ok (.bipush 20, 2) := by decide +kernel
theorem dX2_blow_35 : decode cX2_blow 35 = .ok (.isub, 1) := by decide +kernel
theorem dX2_blow_36 : decode cX2_blow 36 = .ok (.imul, 1) := by decide +kernel
theorem dX2_blow_37 : decode cX2_blow 37 = .ok (.bipush 40, 2) := by decide +kernel
theorem dX2_blow_39 : decode cX2_blow 39 = .ok (.idiv, 1) := by decide +kernel
theorem dX2_blow_40 : decode cX2_blow 40 = .ok (.istore_n 2, 1) := by decide +kernel
theorem dX2_blow_41 : decode cX2_blow 41 = .ok (.iload_n 1, 1) := by decide +kernel
theorem dX2_blow_42 : decode cX2_blow 42 = .ok (.iconst 4, 1) := by decide +kernel
theorem dX2_blow_43 : decode cX2_blow 43 = .ok (.irem, 1) := by decide +kernel
theorem dX2_blow_44 : decode cX2_blow 44 = .ok (.aload_n 0, 1) := by decide +kernel
theorem dX2_blow_45 : decode cX2_blow 45 = .ok (.getfield 45, 3) := by decide +kernel
theorem dX2_blow_48 : decode cX2_blow 48 = .ok (.isub, 1) := by decide +kernel
theorem dX2_blow_49 : decode cX2_blow 49 = .ok (.iconst 4, 1) := by decide +kernel
theorem dX2_blow_50 : decode cX2_blow 50 = .ok (.iadd, 1) := by decide +kernel
theorem dX2_blow_51 : decode cX2_blow 51 = .ok (.iconst 4, 1) := by decide +kernel
theorem dX2_blow_52 : decode cX2_blow 52 = .ok (.irem, 1) := by decide +kernel
theorem dX2_blow_53 : decode cX2_blow 53 = .ok (.istore_n 3, 1) := by decide +kernel
theorem dX2_blow_54 : decode cX2_blow 54 = .ok (.iload_n 3, 1) := by decide +kernel
theorem dX2_blow_55 : decode cX2_blow 55 = .ok (.iconst 2, 1) := by decide +kernel
theorem dX2_blow_56 : decode cX2_blow 56 = .ok (.if_icmp .ne 13, 3) := by decide +kernel
theorem dX2_blow_59 : decode cX2_blow 59 = .ok (.aload_n 0, 1) := by decide +kernel
theorem dX2_blow_60 : decode cX2_blow 60 = .ok (.iload_n 1, 1) := by decide +kernel
theorem dX2_blow_61 : decode cX2_blow 61 = .ok (.iconst 1, 1) := by decide +kernel
theorem dX2_blow_62 : decode cX2_blow 62 = .ok (.iload_n 2, 1) := by decide +kernel
theorem dX2_blow_63 : decode cX2_blow 63 = .ok (.invokevirtual 73, 3) := by decide +kernel
theorem dX2_blow_66 : decode cX2_blow 66 = .ok (.goto 16, 3) := by decide +kernel
theorem dX2_blow_69 : decode cX2_blow 69 = .ok (.iload_n 3, 1) := by decide +kernel
theorem dX2_blow_70 : decode cX2_blow 70 = .ok (.ifCond .eq 12, 3) := by decide +kernel
theorem dX2_blow_73 : decode cX2_blow 73 = .ok (.aload_n 0, 1) := by decide +kernel
theorem dX2_blow_74 : decode cX2_blow 74 = .ok (.iload_n 1, 1) := by decide +kernel
theorem dX2_blow_75 : decode cX2_blow 75 = .ok (.iconst 1, 1) := by decide +kernel
theorem dX2_blow_76 : decode cX2_blow 76 = .ok (.iload_n 2, 1) := by decide +kernel
theorem dX2_blow_77 : decode cX2_blow 77 = .ok (.iconst 2, 1) := by decide +kernel
theorem dX2_blow_78 : decode cX2_blow 78 = .ok (.idiv, 1) := by decide +kernel
theorem dX2_blow_79 : decode cX2_blow 79 = .ok (.invokevirtual 73, 3) := by decide +kernel
theorem dX2_blow_82 : decode cX2_blow 82 = .ok (.return_, 1) := by decide +kernel
set_option maxRecDepth 20000 in
theorem ggX2_buryHoar_X2_numberAt : GoodIn wsX2_buryHoar wsX2_numberAt := goodIn_r _ [6, 7, 23, 24, 25, 26, 27, 28] (by decide +kernel) (by decide +kernel)
set_option maxRecDepth 20000 in
theorem gX2_buryHoar_X2_numberAt : GoodIn wsX2_buryHoar (wsV RX2 67 RX2 yX2_numberAt wsX2_numberAt) := goodIn_app (goodIn_of _ (by decide +kernel)) ggX2_buryHoar_X2_numberAt
set_option maxRecDepth 20000 in
theorem ggX2_buryHoar_X2_grow : GoodIn wsX2_buryHoar wsX2_grow := goodIn_r _ [11, 2, 3, 4, 5, 6, 7, 12, 13, 14, 15, 16, 17, 18, 19, 20, 21, 22, 23, 24, 25, 26, 27, 28] (by decide +kernel) (by decide +kernel)
set_option maxRecDepth 20000 in
theorem gX2_buryHoar_X2_grow : GoodIn wsX2_buryHoar (wsV RX2 73 RX2 yX2_grow wsX2_grow) := goodIn_app (goodIn_of _ (by decide +kernel)) ggX2_buryHoar_X2_grow
set_option maxRecDepth 20000 in
theorem ggX2_buryHoar_X2_put : GoodIn wsX2_buryHoar wsX2_put := goodIn_r _ [15, 7, 16, 17, 18, 19, 20, 21, 5, 22, 23, 24, 25, 26, 27, 28] (by decide +kernel) (by decide +kernel)
set_option maxRecDepth 20000 in
theorem gX2_buryHoar_X2_put : GoodIn wsX2_buryHoar (wsV RX2 70 RX2 yX2_put wsX2_put) := goodIn_app (goodIn_of _ (by decide +kernel)) ggX2_buryHoar_X2_put
theorem dX2_buryHoar_0 : decode cX2_buryHoar 0 = .ok (.iload_n 3, 1) := by decide +kernel
theorem dX2_buryHoar_1 : decode cX2_buryHoar 1 = .ok (.bipush 10, 2) := by decide +kernel
theorem dX2_buryHoar_3 : decode cX2_buryHoar 3 = .ok (.if_icmp .lt 28, 3) := by decide +kernel
theorem dX2_buryHoar_6 : decode cX2_buryHoar 6 = .ok (.aload_n 0, 1) := by decide +kernel
theorem dX2_buryHoar_7 : decode cX2_buryHoar 7 = .ok (.iload_n 1, 1) := by decide +kernel
theorem dX2_buryHoar_8 : decode cX2_buryHoar 8 = .ok (.iconst 2, 1) := by decide +kernel
theorem dX2_buryHoar_9 : decode cX2_buryHoar 9 = .ok (.bipush 15, 2) := by decide +kernel
theorem dX2_buryHoar_11 : decode cX2_buryHoar 11 = .ok (.aload_n 0, 1) := by decide +kernel
theorem dX2_buryHoar_12 : decode cX2_buryHoar 12 = .ok (.iload_n 1, 1) := by decide +kernel
theorem dX2_buryHoar_13 : decode cX2_buryHoar 13 = .ok (.iconst 4, 1) := by decide +kernel
theorem dX2_buryHoar_14 : decode cX2_buryHoar 14 = .ok (.invokevirtual 67, 3) := by decide +kernel
theorem dX2_buryHoar_17 : decode cX2_buryHoar 17 = .ok (.imul, 1) := by decide +kernel
theorem dX2_buryHoar_18 : decode cX2_buryHoar 18 = .ok (.invokevirtual 73, 3) := by decide +kernel
theorem dX2_buryHoar_21 : decode cX2_buryHoar 21 = .ok (.aload_n 0, 1) := by decide +kernel
theorem dX2_buryHoar_22 : decode cX2_buryHoar 22 = .ok (.iload_n 1, 1) := by decide +kernel
theorem dX2_buryHoar_23 : decode cX2_buryHoar 23 = .ok (.iconst 4, 1) := by decide +kernel
theorem dX2_buryHoar_24 : decode cX2_buryHoar 24 = .ok (.iconst 0, 1) := by decide +kernel
theorem dX2_buryHoar_25 : decode cX2_buryHoar 25 = .ok (.invokevirtual 70, 3) := by decide +kernel
theorem dX2_buryHoar_28 : decode cX2_buryHoar 28 = .ok (.goto 52, 3) := by decide +kernel
theorem dX2_buryHoar_31 : decode cX2_buryHoar 31 = .ok (.aload_n 0, 1) := by decide +kernel
theorem dX2_buryHoar_32 : decode cX2_buryHoar 32 = .ok (.getfield 42, 3) := by decide +kernel
theorem dX2_buryHoar_35 : decode cX2_buryHoar 35 = .ok (.bipush 40, 2) := by decide +kernel
theorem dX2_buryHoar_37 : decode cX2_buryHoar 37 = .ok (.if_icmp .ge 7, 3) := by decide +kernel
theorem dX2_buryHoar_40 : decode cX2_buryHoar 40 = .ok (.iload_n 2, 1) := by decide +kernel
theorem dX2_buryHoar_41 : decode cX2_buryHoar 41 = .ok (.ifCond .le 13, 3) := by decide +kernel
theorem dX2_buryHoar_44 : decode cX2_buryHoar 44 = .ok (.aload_n 0, 1) := by decide +kernel
theorem dX2_buryHoar_45 : decode cX2_buryHoar 45 = .ok (.iload_n 1, 1) := by decide +kernel
theorem dX2_buryHoar_46 : decode cX2_buryHoar 46 = .ok (.iconst 4, 1) := by decide +kernel
theorem dX2_buryHoar_47 : decode cX2_buryHoar 47 = .ok (.iconst 0, 1) := by decide +kernel
theorem dX2_buryHoar_48 : decode cX2_buryHoar 48 = .ok (.invokevirtual 70, 3) := by decide +kernel
theorem dX2_buryHoar_51 : decode cX2_buryHoar 51 = .ok (.goto 29, 3) := by decide +kernel
theorem dX2_buryHoar_54 : decode cX2_buryHoar 54 = .ok (.iload_n 3, 1) := by decide +kernel
theorem dX2_buryHoar_55 : decode cX2_buryHoar 55 = .ok (.ifCond .ne 25, 3) := by decide +kernel
theorem dX2_buryHoar_58 : decode cX2_buryHoar 58 = .ok (.aload_n 0, 1) := by decide +kernel
theorem dX2_buryHoar_59 : decode cX2_buryHoar 59 = .ok (.getfield 42, 3) := by decide +kernel
theorem dX2_buryHoar_62 : decode cX2_buryHoar 62 = .ok (.bipush 15, 2) := by decide +kernel
theorem dX2_buryHoar_64 : decode cX2_buryHoar 64 = .ok (.if_icmp .ge 16, 3) := by decide +kernel
theorem dX2_buryHoar_67 : decode cX2_buryHoar 67 = .ok (.iload_n 2, 1) := by decide +kernel
theorem dX2_buryHoar_68 : decode cX2_buryHoar 68 = .ok (.bipush (-8), 2) := by decide +kernel
theorem dX2_buryHoar_70 : decode cX2_buryHoar 70 = .ok (.if_icmp .ge 10, 3) := by decide +kernel
theorem dX2_buryHoar_73 : decode cX2_buryHoar 73 = .ok (.aload_n 0, 1) := by decide +kernel
theorem dX2_buryHoar_74 : decode cX2_buryHoar 74 = .ok (.iload_n 1, 1) := by decide +kernel
theorem dX2_buryHoar_75 : decode cX2_buryHoar 75 = .ok (.iconst 4, 1) := by decide +kernel
theorem dX2_buryHoar_76 : decode cX2_buryHoar 76 = .ok (.iconst 1, 1) := by decide +kernel
theorem dX2_buryHoar_77 : decode cX2_buryHoar 77 = .ok (.invokevirtual 73, 3) := by decide +kernel
theorem dX2_buryHoar_80 : decode cX2_buryHoar 80 = .ok (.return_, 1) := by decide +kernel
set_option maxRecDepth 20000 in
theorem ggX2_thaw_X2_keepPercent : GoodIn wsX2_thaw wsX2_keepPercent := goodIn_r _ [5, 6, 7, 8, 4, 9, 10, 11, 12, 13, 14, 15, 16, 17, 18, 19, 20, 21, 26, 27, 28, 29, 30, 31] (by decide +kernel) (by decide +kernel)
set_option maxRecDepth 20000 in
theorem gX2_thaw_X2_keepPercent : GoodIn wsX2_thaw (wsV RX2 76 RX2 yX2_keepPercent wsX2_keepPercent) := goodIn_app (goodIn_of _ (by decide +kernel)) ggX2_thaw_X2_keepPercent
set_option maxRecDepth 20000 in
theorem ggX2_thaw_X2_grow : GoodIn wsX2_thaw wsX2_grow := goodIn_r _ [25, 6, 7, 8, 4, 9, 10, 11, 12, 13, 14, 15, 16, 17, 18, 19, 20, 21, 26, 27, 28, 29, 30, 31] (by decide +kernel) (by decide +kernel)
set_option maxRecDepth 20000 in
theorem gX2_thaw_X2_grow : GoodIn wsX2_thaw (wsV RX2 73 RX2 yX2_grow wsX2_grow) := goodIn_app (goodIn_of _ (by decide +kernel)) ggX2_thaw_X2_grow
theorem dX2_thaw_0 : decode cX2_thaw 0 = .ok (.iload_n 2, 1) := by decide +kernel
theorem dX2_thaw_1 : decode cX2_thaw 1 = .ok (.ifCond .le 35, 3) := by decide +kernel
theorem dX2_thaw_4 : decode cX2_thaw 4 = .ok (.aload_n 0, 1) := by decide +kernel
theorem dX2_thaw_5 : decode cX2_thaw 5 = .ok (.iload_n 1, 1) := by decide +kernel
theorem dX2_thaw_6 : decode cX2_thaw 6 = .ok (.iconst 2, 1) := by decide +kernel
theorem dX2_thaw_7 : decode cX2_thaw 7 = .ok (.bipush 70, 2) := by decide +kernel
theorem dX2_thaw_9 : decode cX2_thaw 9 = .ok (.invokevirtual 76, 3) := by decide +kernel
theorem dX2_thaw_12 : decode cX2_thaw 12 = .ok (.aload_n 0, 1) := by decide +kernel
theorem dX2_thaw_13 : decode cX2_thaw 13 = .ok (.iload_n 1, 1) := by decide +kernel
theorem dX2_thaw_14 : decode cX2_thaw 14 = .ok (.iconst 3, 1) := by decide +kernel
theorem dX2_thaw_15 : decode cX2_thaw 15 = .ok (.iload_n 1, 1) := by decide +kernel
theorem dX2_thaw_16 : decode cX2_thaw 16 = .ok (.iconst 4, 1) := by decide +kernel
theorem dX2_thaw_17 : decode cX2_thaw 17 = .ok (.irem, 1) := by decide +kernel
theorem dX2_thaw_18 : decode cX2_thaw 18 = .ok (.iconst 2, 1) := by decide +kernel
theorem dX2_thaw_19 : decode cX2_thaw 19 = .ok (.if_icmp .ne 8, 3) := by decide +kernel
theorem dX2_thaw_22 : decode cX2_thaw 22 = .ok (.bipush 8, 2) := by decide +kernel
theorem dX2_thaw_24 : decode cX2_thaw 24 = .ok (.goto 4, 3) := by decide +kernel
theorem dX2_thaw_27 : decode cX2_thaw 27 = .ok (.iconst 4, 1) := by decide +kernel
theorem dX2_thaw_28 : decode cX2_thaw 28 = .ok (.iload_n 2, 1) := by decide +kernel
theorem dX2_thaw_29 : decode cX2_thaw 29 = .ok (.imul, 1) := by decide +kernel
theorem dX2_thaw_30 : decode cX2_thaw 30 = .ok (.invokevirtual 73, 3) := by decide +kernel
theorem dX2_thaw_33 : decode cX2_thaw 33 = .ok (.goto 19, 3) := by decide +kernel
theorem dX2_thaw_36 : decode cX2_thaw 36 = .ok (.aload_n 0, 1) := by decide +kernel
theorem dX2_thaw_37 : decode cX2_thaw 37 = .ok (.iload_n 1, 1) := by decide +kernel
theorem dX2_thaw_38 : decode cX2_thaw 38 = .ok (.iconst 2, 1) := by decide +kernel
theorem dX2_thaw_39 : decode cX2_thaw 39 = .ok (.bipush 95, 2) := by decide +kernel
theorem dX2_thaw_41 : decode cX2_thaw 41 = .ok (.invokevirtual 76, 3) := by decide +kernel
theorem dX2_thaw_44 : decode cX2_thaw 44 = .ok (.aload_n 0, 1) := by decide +kernel
theorem dX2_thaw_45 : decode cX2_thaw 45 = .ok (.iload_n 1, 1) := by decide +kernel
theorem dX2_thaw_46 : decode cX2_thaw 46 = .ok (.iconst 3, 1) := by decide +kernel
theorem dX2_thaw_47 : decode cX2_thaw 47 = .ok (.bipush 50, 2) := by decide +kernel
theorem dX2_thaw_49 : decode cX2_thaw 49 = .ok (.invokevirtual 76, 3) := by decide +kernel
theorem dX2_thaw_52 : decode cX2_thaw 52 = .ok (.return_, 1) := by decide +kernel
set_option maxRecDepth 20000 in
theorem ggX2_problemAt_X2_numberAt : GoodIn wsX2_problemAt wsX2_numberAt := goodIn_r _ [9, 10, 11, 12, 13, 14, 15, 16] (by decide +kernel) (by decide +kernel)
set_option maxRecDepth 20000 in
theorem gX2_problemAt_X2_numberAt : GoodIn wsX2_problemAt (wsV RX2 67 RX2 yX2_numberAt wsX2_numberAt) := goodIn_app (goodIn_of _ (by decide +kernel)) ggX2_problemAt_X2_numberAt
theorem dX2_problemAt_0 : decode cX2_problemAt 0 = .ok (.aload_n 0, 1) := by decide +kernel
theorem dX2_problemAt_1 : decode cX2_problemAt 1 = .ok (.iload_n 1, 1) := by decide +kernel
theorem dX2_problemAt_2 : decode cX2_problemAt 2 = .ok (.iload_n 2, 1) := by decide +kernel
theorem dX2_problemAt_3 : decode cX2_problemAt 3 = .ok (.invokevirtual 67, 3) := by decide +kernel
theorem dX2_problemAt_6 : decode cX2_problemAt 6 = .ok (.istore_n 3, 1) := by decide +kernel
theorem dX2_problemAt_7 : decode cX2_problemAt 7 = .ok (.iload_n 2, 1) := by decide +kernel
theorem dX2_problemAt_8 : decode cX2_problemAt 8 = .ok (.iconst 2, 1) := by decide +kernel
theorem dX2_problemAt_9 : decode cX2_problemAt 9 = .ok (.if_icmp .eq 5, 3) := by decide +kernel
theorem dX2_problemAt_12 : decode cX2_problemAt 12 = .ok (.iload_n 3, 1) := by decide +kernel
theorem dX2_problemAt_13 : decode cX2_problemAt 13 = .ok (.ireturn, 1) := by decide +kernel
theorem dX2_problemAt_14 : decode cX2_problemAt 14 = .ok (.aload_n 0, 1) := by decide +kernel
theorem dX2_problemAt_15 : decode cX2_problemAt 15 = .ok (.iload_n 1, 1) := by decide +kernel
theorem dX2_problemAt_16 : decode cX2_problemAt 16 = .ok (.iconst 0, 1) := by decide +kernel
theorem dX2_problemAt_17 : decode cX2_problemAt 17 = .ok (.invokevirtual 67, 3) := by decide +kernel
theorem dX2_problemAt_20 : decode cX2_problemAt 20 = .ok (.aload_n 0, 1) := by decide +kernel
theorem dX2_problemAt_21 : decode cX2_problemAt 21 = .ok (.iload_n 1, 1) := by decide +kernel
theorem dX2_problemAt_22 : decode cX2_problemAt 22 = .ok (.iconst 1, 1) := by decide +kernel
theorem dX2_problemAt_23 : decode cX2_problemAt 23 = .ok (.invokevirtual 67, 3) := by decide +kernel
theorem dX2_problemAt_26 : decode cX2_problemAt 26 = .ok (.iadd, 1) := by decide +kernel
theorem dX2_problemAt_27 : decode cX2_problemAt 27 = .ok (.istore 4, 2) := by decide +kernel
theorem dX2_problemAt_29 : decode cX2_problemAt 29 = .ok (.iload_n 3, 1) := by decide +kernel
theorem dX2_problemAt_30 : decode cX2_problemAt 30 = .ok (.bipush 100, 2) := by decide +kernel
theorem dX2_problemAt_32 : decode cX2_problemAt 32 = .ok (.iload 4, 2) := by decide +kernel
theorem dX2_problemAt_34 : decode cX2_problemAt 34 = .ok (.invokestatic 23, 3) := by decide +kernel
theorem dX2_problemAt_37 : decode cX2_problemAt 37 = .ok (.imul, 1) := by decide +kernel
theorem dX2_problemAt_38 : decode cX2_problemAt 38 = .ok (.bipush 100, 2) := by decide +kernel
theorem dX2_problemAt_40 : decode cX2_problemAt 40 = .ok (.idiv, 1) := by decide +kernel
theorem dX2_problemAt_41 : decode cX2_problemAt 41 = .ok (.ireturn, 1) := by decide +kernel
set_option maxRecDepth 20000 in
theorem ggX2_dangerAt_X2_problemAt : GoodIn wsX2_dangerAt wsX2_problemAt := goodIn_r _ [12, 1, 2, 3, 4, 13, 14, 15, 11, 16, 17, 18, 19, 20, 21, 22, 23] (by decide +kernel) (by decide +kernel)
set_option maxRecDepth 20000 in
theorem gX2_dangerAt_X2_problemAt : GoodIn wsX2_dangerAt (wsV RX2 79 RX2 yX2_problemAt wsX2_problemAt) := goodIn_app (goodIn_of _ (by decide +kernel)) ggX2_dangerAt_X2_problemAt
theorem dX2_dangerAt_0 : decode cX2_dangerAt 0 = .ok (.iconst 0, 1) := by decide +kernel
theorem dX2_dangerAt_1 : decode cX2_dangerAt 1 = .ok (.istore_n 2, 1) := by decide +kernel
theorem dX2_dangerAt_2 : decode cX2_dangerAt 2 = .ok (.iconst 0, 1) := by decide +kernel
theorem dX2_dangerAt_3 : decode cX2_dangerAt 3 = .ok (.istore_n 3, 1) := by decide +kernel
theorem dX2_dangerAt_4 : decode cX2_dangerAt 4 = .ok (.iconst 0, 1) := by decide +kernel
theorem dX2_dangerAt_5 : decode cX2_dangerAt 5 = .ok (.istore 4, 2) := by decide +kernel
theorem dX2_dangerAt_7 : decode cX2_dangerAt 7 = .ok (.iload 4, 2) := by decide +kernel
theorem dX2_dangerAt_9 : decode cX2_dangerAt 9 = .ok (.iconst 4, 1) := by decide +kernel
theorem dX2_dangerAt_10 : decode cX2_dangerAt 10 = .ok (.if_icmp .ge 36, 3) := by decide +kernel
theorem dX2_dangerAt_13 : decode cX2_dangerAt 13 = .ok (.aload_n 0, 1) := by decide +kernel
theorem dX2_dangerAt_14 : decode cX2_dangerAt 14 = .ok (.iload_n 1, 1) := by decide +kernel
theorem dX2_dangerAt_15 : decode cX2_dangerAt 15 = .ok (.iload 4, 2) := by decide +kernel
theorem dX2_dangerAt_17 : decode cX2_dangerAt 17 = .ok (.invokevirtual 79, 3) := by decide +kernel
theorem dX2_dangerAt_20 : decode cX2_dangerAt 20 = .ok (.istore 5, 2) := by decide +kernel
theorem dX2_dangerAt_22 : decode cX2_dangerAt 22 = .ok (.iload_n 3, 1) := by decide +kernel
theorem dX2_dangerAt_23 : decode cX2_dangerAt 23 = .ok (.iload 5, 2) := by decide +kernel
theorem dX2_dangerAt_25 : decode cX2_dangerAt 25 = .ok (.iload_n 2, 1) := by decide +kernel
theorem dX2_dangerAt_26 : decode cX2_dangerAt 26 = .ok (.invokestatic 23, 3) := by decide +kernel
theorem dX2_dangerAt_29 : decode cX2_dangerAt 29 = .ok (.invokestatic 82, 3) := by decide +kernel
theorem dX2_dangerAt_32 : decode cX2_dangerAt 32 = .ok (.istore_n 3, 1) := by decide +kernel
theorem dX2_dangerAt_33 : decode cX2_dangerAt 33 = .ok (.iload_n 2, 1) := by decide +kernel
theorem dX2_dangerAt_34 : decode cX2_dangerAt 34 = .ok (.iload 5, 2) := by decide +kernel
theorem dX2_dangerAt_36 : decode cX2_dangerAt 36 = .ok (.invokestatic 82, 3) := by decide +kernel
theorem dX2_dangerAt_39 : decode cX2_dangerAt 39 = .ok (.istore_n 2, 1) := by decide +kernel
theorem dX2_dangerAt_40 : decode cX2_dangerAt 40 = .ok (.iinc 4 1, 3) := by decide +kernel
theorem dX2_dangerAt_43 : decode cX2_dangerAt 43 = .ok (.goto (-36), 3) := by decide +kernel
theorem dX2_dangerAt_46 : decode cX2_dangerAt 46 = .ok (.iload_n 2, 1) := by decide +kernel
theorem dX2_dangerAt_47 : decode cX2_dangerAt 47 = .ok (.iload_n 3, 1) := by decide +kernel
theorem dX2_dangerAt_48 : decode cX2_dangerAt 48 = .ok (.iconst 4, 1) := by decide +kernel
theorem dX2_dangerAt_49 : decode cX2_dangerAt 49 = .ok (.idiv, 1) := by decide +kernel
theorem dX2_dangerAt_50 : decode cX2_dangerAt 50 = .ok (.iadd, 1) := by decide +kernel
theorem dX2_dangerAt_51 : decode cX2_dangerAt 51 = .ok (.ireturn, 1) := by decide +kernel
set_option maxRecDepth 20000 in
theorem ggX2_findLevel_X2_dangerAt : GoodIn wsX2_findLevel wsX2_dangerAt := goodIn_r _ [12, 1, 2, 3, 4, 5, 6, 7, 13, 14, 15, 11, 16, 17, 18, 19, 20, 21, 25, 26, 27, 28, 29, 30] (by decide +kernel) (by decide +kernel)
set_option maxRecDepth 20000 in
theorem gX2_findLevel_X2_dangerAt : GoodIn wsX2_findLevel (wsV RX2 85 RX2 yX2_dangerAt wsX2_dangerAt) := goodIn_app (goodIn_of _ (by decide +kernel)) ggX2_findLevel_X2_dangerAt
set_option maxRecDepth 20000 in
theorem ggX2_findLevel_X2_levelOfDanger : GoodIn wsX2_findLevel wsX2_levelOfDanger := goodIn_r _ [24] (by decide +kernel) (by decide +kernel)
set_option maxRecDepth 20000 in
theorem gX2_findLevel_X2_levelOfDanger : GoodIn wsX2_findLevel (va_wsS RX2 88 yX2_levelOfDanger wsX2_levelOfDanger) := goodIn_app (goodIn_of _ (by decide +kernel)) ggX2_findLevel_X2_levelOfDanger
theorem dX2_findLevel_0 : decode cX2_findLevel 0 = .ok (.iconst 0, 1) := by decide +kernel
theorem dX2_findLevel_1 : decode cX2_findLevel 1 = .ok (.istore_n 1, 1) := by decide +kernel
theorem dX2_findLevel_2 : decode cX2_findLevel 2 = .ok (.iconst 0, 1) := by decide +kernel
theorem dX2_findLevel_3 : decode cX2_findLevel 3 = .ok (.istore_n 2, 1) := by decide +kernel
theorem dX2_findLevel_4 : decode cX2_findLevel 4 = .ok (.iconst 0, 1) := by decide +kernel
theorem dX2_findLevel_5 : decode cX2_findLevel 5 = .ok (.istore_n 3, 1) := by decide +kernel
theorem dX2_findLevel_6 : decode cX2_findLevel 6 = .ok (.iload_n 3, 1) := by decide +kernel
theorem dX2_findLevel_7 : decode cX2_findLevel 7 = .ok (.bipush 12, 2) := by decide +kernel
theorem dX2_findLevel_9 : decode cX2_findLevel 9 = .ok (.if_icmp .ge 34, 3) := by decide +kernel
theorem dX2_findLevel_12 : decode cX2_findLevel 12 = .ok (.aload_n 0, 1) := by decide +kernel
theorem dX2_findLevel_13 : decode cX2_findLevel 13 = .ok (.iload_n 3, 1) := by decide +kernel
theorem dX2_findLevel_14 : decode cX2_findLevel 14 = .ok (.invokevirtual 85, 3) := by decide +kernel
theorem dX2_findLevel_17 : decode cX2_findLevel 17 = .ok (.istore 4, 2) := by decide +kernel
theorem dX2_findLevel_19 : decode cX2_findLevel 19 = .ok (.iload_n 2, 1) := by decide +kernel
theorem dX2_findLevel_20 : decode cX2_findLevel 20 = .ok (.iload 4, 2) := by decide +kernel
theorem dX2_findLevel_22 : decode cX2_findLevel 22 = .ok (.iload_n 1, 1) := by decide +kernel
theorem dX2_findLevel_23 : decode cX2_findLevel 23 = .ok (.invokestatic 23, 3) := by decide +kernel
theorem dX2_findLevel_26 : decode cX2_findLevel 26 = .ok (.invokestatic 82, 3) := by decide +kernel
theorem dX2_findLevel_29 : decode cX2_findLevel 29 = .ok (.istore_n 2, 1) := by decide +kernel
theorem dX2_findLevel_30 : decode cX2_findLevel 30 = .ok (.iload_n 1, 1) := by decide +kernel
theorem dX2_findLevel_31 : decode cX2_findLevel 31 = .ok (.iload 4, 2) := by decide +kernel
theorem dX2_findLevel_33 : decode cX2_findLevel 33 = .ok (.invokestatic 82, 3) := by decide +kernel
theorem dX2_findLevel_36 : decode cX2_findLevel 36 = .ok (.istore_n 1, 1) := by decide +kernel
theorem dX2_findLevel_37 : decode cX2_findLevel 37 = .ok (.iinc 3 1, 3) := by decide +kernel
theorem dX2_findLevel_40 : decode cX2_findLevel 40 = .ok (.goto (-34), 3) := by decide +kernel
theorem dX2_findLevel_43 : decode cX2_findLevel 43 = .ok (.iload_n 2, 1) := by decide +kernel
theorem dX2_findLevel_44 : decode cX2_findLevel 44 = .ok (.invokestatic 88, 3) := by decide +kernel
theorem dX2_findLevel_47 : decode cX2_findLevel 47 = .ok (.ireturn, 1) := by decide +kernel
set_option maxRecDepth 20000 in
theorem ggX2_findCore_X2_dangerAt : GoodIn wsX2_findCore wsX2_dangerAt := goodIn_r _ [5, 6, 7, 8, 9, 10, 11, 12, 13, 14, 15, 4, 16, 17, 18, 19, 20, 21, 25, 26, 27, 28, 29, 30] (by decide +kernel) (by decide +kernel)
set_option maxRecDepth 20000 in
theorem gX2_findCore_X2_dangerAt : GoodIn wsX2_findCore (wsV RX2 85 RX2 yX2_dangerAt wsX2_dangerAt) := goodIn_app (goodIn_of _ (by decide +kernel)) ggX2_findCore_X2_dangerAt
set_option maxRecDepth 20000 in
theorem ggX2_findCore_X2_levelOfDanger : GoodIn wsX2_findCore wsX2_levelOfDanger := goodIn_r _ [24] (by decide +kernel) (by decide +kernel)
set_option maxRecDepth 20000 in
theorem gX2_findCore_X2_levelOfDanger : GoodIn wsX2_findCore (va_wsS RX2 88 yX2_levelOfDanger wsX2_levelOfDanger) := goodIn_app (goodIn_of _ (by decide +kernel)) ggX2_findCore_X2_levelOfDanger
theorem dX2_findCore_0 : decode cX2_findCore 0 = .ok (.iconst 0, 1) := by decide +kernel
theorem dX2_findCore_1 : decode cX2_findCore 1 = .ok (.istore_n 2, 1) := by decide +kernel
theorem dX2_findCore_2 : decode cX2_findCore 2 = .ok (.iconst 0, 1) := by decide +kernel
theorem dX2_findCore_3 : decode cX2_findCore 3 = .ok (.istore_n 3, 1) := by decide +kernel
theorem dX2_findCore_4 : decode cX2_findCore 4 = .ok (.iload_n 3, 1) := by decide +kernel
theorem dX2_findCore_5 : decode cX2_findCore 5 = .ok (.bipush 12, 2) := by decide +kernel
theorem dX2_findCore_7 : decode cX2_findCore 7 = .ok (.if_icmp .ge 27, 3) := by decide +kernel
theorem dX2_findCore_10 : decode cX2_findCore 10 = .ok (.aload_n 0, 1) := by decide +kernel
theorem dX2_findCore_11 : decode cX2_findCore 11 = .ok (.iload_n 3, 1) := by decide +kernel
theorem dX2_findCore_12 : decode cX2_findCore 12 = .ok (.invokevirtual 85, 3) := by decide +kernel
theorem dX2_findCore_15 : decode cX2_findCore 15 = .ok (.invokestatic 88, 3) := by decide +kernel
theorem dX2_findCore_18 : decode cX2_findCore 18 = .ok (.iload_n 1, 1) := by decide +kernel
theorem dX2_findCore_19 : decode cX2_findCore 19 = .ok (.if_icmp .lt 9, 3) := by decide +kernel
theorem dX2_findCore_22 : decode cX2_findCore 22 = .ok (.iload_n 2, 1) := by decide +kernel
theorem dX2_findCore_23 : decode cX2_findCore 23 = .ok (.iconst 1, 1) := by decide +kernel
theorem dX2_findCore_24 : decode cX2_findCore 24 = .ok (.iload_n 3, 1) := by decide +kernel
theorem dX2_findCore_25 : decode cX2_findCore 25 = .ok (.ishl, 1) := by decide +kernel
theorem dX2_findCore_26 : decode cX2_findCore 26 = .ok (.ior, 1) := by decide +kernel
theorem dX2_findCore_27 : decode cX2_findCore 27 = .ok (.istore_n 2, 1) := by decide +kernel
theorem dX2_findCore_28 : decode cX2_findCore 28 = .ok (.iinc 3 1, 3) := by decide +kernel
theorem dX2_findCore_31 : decode cX2_findCore 31 = .ok (.goto (-27), 3) := by decide +kernel
theorem dX2_findCore_34 : decode cX2_findCore 34 = .ok (.iload_n 2, 1) := by decide +kernel
theorem dX2_findCore_35 : decode cX2_findCore 35 = .ok (.ireturn, 1) := by decide +kernel
set_option maxRecDepth 20000 in
theorem ggX2_findProblem_X2_sumInCore : GoodIn wsX2_findProblem wsX2_sumInCore := goodIn_r _ [5, 6, 7, 8, 9, 10, 11, 4, 12, 13, 14, 15, 16, 17, 18, 19, 20, 21, 22, 23, 24, 25, 26, 27] (by decide +kernel) (by decide +kernel)
set_option maxRecDepth 20000 in
theorem gX2_findProblem_X2_sumInCore : GoodIn wsX2_findProblem (wsV RX2 91 RX2 yX2_sumInCore wsX2_sumInCore) := goodIn_app (goodIn_of _ (by decide +kernel)) ggX2_findProblem_X2_sumInCore
theorem dX2_findProblem_0 : decode cX2_findProblem 0 = .ok (.iconst 0, 1) := by decide +kernel
theorem dX2_findProblem_1 : decode cX2_findProblem 1 = .ok (.istore_n 2, 1) := by decide +kernel
theorem dX2_findProblem_2 : decode cX2_findProblem 2 = .ok (.iconst (-1), 1) := by decide +kernel
theorem dX2_findProblem_3 : decode cX2_findProblem 3 = .ok (.istore_n 3, 1) := by decide +kernel
theorem dX2_findProblem_4 : decode cX2_findProblem 4 = .ok (.iconst 0, 1) := by decide +kernel
theorem dX2_findProblem_5 : decode cX2_findProblem 5 = .ok (.istore 4, 2) := by decide +kernel
theorem dX2_findProblem_7 : decode cX2_findProblem 7 = .ok (.iload 4, 2) := by decide +kernel
theorem dX2_findProblem_9 : decode cX2_findProblem 9 = .ok (.iconst 4, 1) := by decide +kernel
theorem dX2_findProblem_10 : decode cX2_findProblem 10 = .ok (.if_icmp .ge 30, 3) := by decide +kernel
theorem dX2_findProblem_13 : decode cX2_findProblem 13 = .ok (.aload_n 0, 1) := by decide +kernel
theorem dX2_findProblem_14 : decode cX2_findProblem 14 = .ok (.iload_n 1, 1) := by decide +kernel
theorem dX2_findProblem_15 : decode cX2_findProblem 15 = .ok (.iload 4, 2) := by decide +kernel
theorem dX2_findProblem_17 : decode cX2_findProblem 17 = .ok (.invokevirtual 91, 3) := by decide +kernel
theorem dX2_findProblem_20 : decode cX2_findProblem 20 = .ok (.istore 5, 2) := by decide +kernel
theorem dX2_findProblem_22 : decode cX2_findProblem 22 = .ok (.iload 5, 2) := by decide +kernel
theorem dX2_findProblem_24 : decode cX2_findProblem 24 = .ok (.iload_n 3, 1) := by decide +kernel
theorem dX2_findProblem_25 : decode cX2_findProblem 25 = .ok (.if_icmp .le 9, 3) := by decide +kernel
theorem dX2_findProblem_28 : decode cX2_findProblem 28 = .ok (.iload 4, 2) := by decide +kernel
theorem dX2_findProblem_30 : decode cX2_findProblem 30 = .ok (.istore_n 2, 1) := by decide +kernel
theorem dX2_findProblem_31 : decode cX2_findProblem 31 = .ok (.iload 5, 2) := by decide +kernel
theorem dX2_findProblem_33 : decode cX2_findProblem 33 = .ok (.istore_n 3, 1) := by decide +kernel
theorem dX2_findProblem_34 : decode cX2_findProblem 34 = .ok (.iinc 4 1, 3) := by decide +kernel
theorem dX2_findProblem_37 : decode cX2_findProblem 37 = .ok (.goto (-30), 3) := by decide +kernel
theorem dX2_findProblem_40 : decode cX2_findProblem 40 = .ok (.iload_n 2, 1) := by decide +kernel
theorem dX2_findProblem_41 : decode cX2_findProblem 41 = .ok (.ireturn, 1) := by decide +kernel
set_option maxRecDepth 20000 in
theorem ggX2_sumInCore_X4_bit : GoodIn wsX2_sumInCore wsX4_bit := goodIn_r _ [3] (by decide +kernel) (by decide +kernel)
set_option maxRecDepth 20000 in
theorem gX2_sumInCore_X4_bit_n94 : GoodIn wsX2_sumInCore (wsX4_bit) := ggX2_sumInCore_X4_bit
set_option maxRecDepth 20000 in
theorem ggX2_sumInCore_X2_problemAt : GoodIn wsX2_sumInCore wsX2_problemAt := goodIn_r _ [8, 9, 10, 11, 12, 13, 14, 15, 7, 16, 17, 18, 19, 20, 21, 22, 23] (by decide +kernel) (by decide +kernel)
set_option maxRecDepth 20000 in
theorem gX2_sumInCore_X2_problemAt : GoodIn wsX2_sumInCore (wsV RX2 79 RX2 yX2_problemAt wsX2_problemAt) := goodIn_app (goodIn_of _ (by decide +kernel)) ggX2_sumInCore_X2_problemAt
theorem dX2_sumInCore_0 : decode cX2_sumInCore 0 = .ok (.iconst 0, 1) := by decide +kernel
theorem dX2_sumInCore_1 : decode cX2_sumInCore 1 = .ok (.istore_n 3, 1) := by decide +kernel
theorem dX2_sumInCore_2 : decode cX2_sumInCore 2 = .ok (.iconst 0, 1) := by decide +kernel
theorem dX2_sumInCore_3 : decode cX2_sumInCore 3 = .ok (.istore 4, 2) := by decide +kernel
theorem dX2_sumInCore_5 : decode cX2_sumInCore 5 = .ok (.iload 4, 2) := by decide +kernel
theorem dX2_sumInCore_7 : decode cX2_sumInCore 7 = .ok (.bipush 12, 2) := by decide +kernel
theorem dX2_sumInCore_9 : decode cX2_sumInCore 9 = .ok (.if_icmp .ge 26, 3) := by decide +kernel
theorem dX2_sumInCore_12 : decode cX2_sumInCore 12 = .ok (.iload_n 3, 1) := by decide +kernel
theorem dX2_sumInCore_13 : decode cX2_sumInCore 13 = .ok (.iload_n 1, 1) := by decide +kernel
theorem dX2_sumInCore_14 : decode cX2_sumInCore 14 = .ok (.iload 4, 2) := by decide +kernel
theorem dX2_sumInCore_16 : decode cX2_sumInCore 16 = .ok (.invokestatic 94, 3) := by decide +kernel
theorem dX2_sumInCore_19 : decode cX2_sumInCore 19 = .ok (.aload_n 0, 1) := by decide +kernel
theorem dX2_sumInCore_20 : decode cX2_sumInCore 20 = .ok (.iload 4, 2) := by decide +kernel
theorem dX2_sumInCore_22 : decode cX2_sumInCore 22 = .ok (.iload_n 2, 1) := by decide +kernel
theorem dX2_sumInCore_23 : decode cX2_sumInCore 23 = .ok (.invokevirtual 79, 3) := by decide +kernel
theorem dX2_sumInCore_26 : decode cX2_sumInCore 26 = .ok (.imul, 1) := by decide +kernel
theorem dX2_sumInCore_27 : decode cX2_sumInCore 27 = .ok (.iadd, 1) := by decide +kernel
theorem dX2_sumInCore_28 : decode cX2_sumInCore 28 = .ok (.istore_n 3, 1) := by decide +kernel
theorem dX2_sumInCore_29 : decode cX2_sumInCore 29 = .ok (.iinc 4 1, 3) := by decide +kernel
theorem dX2_sumInCore_32 : decode cX2_sumInCore 32 = .ok (.goto (-27), 3) := by decide +kernel
theorem dX2_sumInCore_35 : decode cX2_sumInCore 35 = .ok (.iload_n 3, 1) := by decide +kernel
theorem dX2_sumInCore_36 : decode cX2_sumInCore 36 = .ok (.ireturn, 1) := by decide +kernel
theorem dX3_init_0 : decode cX3_init 0 = .ok (.aload_n 0, 1) := by decide +kernel
theorem dX3_init_1 : decode cX3_init 1 = .ok (.invokespecial 1, 3) := by decide +kernel
theorem dX3_init_4 : decode cX3_init 4 = .ok (.aload_n 0, 1) := by decide +kernel
theorem dX3_init_5 : decode cX3_init 5 = .ok (.bipush 20, 2) := by decide +kernel
theorem dX3_init_7 : decode cX3_init 7 = .ok (.newarray .int, 2) := by decide +kernel
theorem dX3_init_9 : decode cX3_init 9 = .ok (.putfield 9, 3) := by decide +kernel
theorem dX3_init_12 : decode cX3_init 12 = .ok (.aload_n 0, 1) := by decide +kernel
theorem dX3_init_13 : decode cX3_init 13 = .ok (.bipush 20, 2) := by decide +kernel
theorem dX3_init_15 : decode cX3_init 15 = .ok (.newarray .int, 2) := by decide +kernel
theorem dX3_init_17 : decode cX3_init 17 = .ok (.putfield 13, 3) := by decide +kernel
theorem dX3_init_20 : decode cX3_init 20 = .ok (.return_, 1) := by decide +kernel
set_option maxRecDepth 20000 in
theorem ggX4_init_X2_init : GoodIn wsX4_init wsX2_init := goodIn_r _ [22, 23, 2, 3, 24, 25, 26, 51, 52, 53, 54, 55, 56] (by decide +kernel) (by decide +kernel)
set_option maxRecDepth 20000 in
theorem gX4_init_X2_init_n15 : GoodIn wsX4_init (wsX2_init) := ggX4_init_X2_init
set_option maxRecDepth 20000 in
theorem ggX4_init_X1_init : GoodIn wsX4_init wsX1_init := goodIn_r _ [28, 29, 2, 3, 24, 30, 31, 57, 58, 59] (by decide +kernel) (by decide +kernel)
set_option maxRecDepth 20000 in
theorem gX4_init_X1_init_n22 : GoodIn wsX4_init (wsX1_init) := ggX4_init_X1_init
set_option maxRecDepth 20000 in
theorem ggX4_init_X0_init : GoodIn wsX4_init wsX0_init := goodIn_r _ [33, 34, 2, 3, 24, 35, 36, 37, 38, 60, 61, 62, 63, 64] (by decide +kernel) (by decide +kernel)
set_option maxRecDepth 20000 in
theorem gX4_init_X0_init_n29 : GoodIn wsX4_init (wsX0_init) := ggX4_init_X0_init
set_option maxRecDepth 20000 in
theorem ggX4_init_X3_init : GoodIn wsX4_init wsX3_init := goodIn_r _ [40, 41, 2, 3, 24, 42, 43, 65, 66, 67] (by decide +kernel) (by decide +kernel)
set_option maxRecDepth 20000 in
theorem gX4_init_X3_init_n36 : GoodIn wsX4_init (wsX3_init) := ggX4_init_X3_init
theorem dX4_init_0 : decode cX4_init 0 = .ok (.aload_n 0, 1) := by decide +kernel
theorem dX4_init_1 : decode cX4_init 1 = .ok (.invokespecial 1, 3) := by decide +kernel
theorem dX4_init_4 : decode cX4_init 4 = .ok (.aload_n 0, 1) := by decide +kernel
theorem dX4_init_5 : decode cX4_init 5 = .ok (.bipush 6, 2) := by decide +kernel
theorem dX4_init_7 : decode cX4_init 7 = .ok (.anewarray 9, 3) := by decide +kernel
theorem dX4_init_10 : decode cX4_init 10 = .ok (.putfield 11, 3) := by decide +kernel
theorem dX4_init_13 : decode cX4_init 13 = .ok (.aload_n 0, 1) := by decide +kernel
theorem dX4_init_14 : decode cX4_init 14 = .ok (.new 9, 3) := by decide +kernel
theorem dX4_init_17 : decode cX4_init 17 = .ok (.dup, 1) := by decide +kernel
theorem dX4_init_18 : decode cX4_init 18 = .ok (.invokespecial 15, 3) := by decide +kernel
theorem dX4_init_21 : decode cX4_init 21 = .ok (.putfield 16, 3) := by decide +kernel
theorem dX4_init_24 : decode cX4_init 24 = .ok (.aload_n 0, 1) := by decide +kernel
theorem dX4_init_25 : decode cX4_init 25 = .ok (.new 20, 3) := by decide +kernel
theorem dX4_init_28 : decode cX4_init 28 = .ok (.dup, 1) := by decide +kernel
theorem dX4_init_29 : decode cX4_init 29 = .ok (.invokespecial 22, 3) := by decide +kernel
theorem dX4_init_32 : decode cX4_init 32 = .ok (.putfield 23, 3) := by decide +kernel
theorem dX4_init_35 : decode cX4_init 35 = .ok (.aload_n 0, 1) := by decide +kernel
theorem dX4_init_36 : decode cX4_init 36 = .ok (.new 27, 3) := by decide +kernel
theorem dX4_init_39 : decode cX4_init 39 = .ok (.dup, 1) := by decide +kernel
theorem dX4_init_40 : decode cX4_init 40 = .ok (.invokespecial 29, 3) := by decide +kernel
theorem dX4_init_43 : decode cX4_init 43 = .ok (.putfield 30, 3) := by decide +kernel
theorem dX4_init_46 : decode cX4_init 46 = .ok (.aload_n 0, 1) := by decide +kernel
theorem dX4_init_47 : decode cX4_init 47 = .ok (.new 34, 3) := by decide +kernel
theorem dX4_init_50 : decode cX4_init 50 = .ok (.dup, 1) := by decide +kernel
theorem dX4_init_51 : decode cX4_init 51 = .ok (.invokespecial 36, 3) := by decide +kernel
theorem dX4_init_54 : decode cX4_init 54 = .ok (.putfield 37, 3) := by decide +kernel
theorem dX4_init_57 : decode cX4_init 57 = .ok (.iconst 0, 1) := by decide +kernel
theorem dX4_init_58 : decode cX4_init 58 = .ok (.istore_n 1, 1) := by decide +kernel
theorem dX4_init_59 : decode cX4_init 59 = .ok (.iload_n 1, 1) := by decide +kernel
theorem dX4_init_60 : decode cX4_init 60 = .ok (.bipush 6, 2) := by decide +kernel
theorem dX4_init_62 : decode cX4_init 62 = .ok (.if_icmp .ge 22, 3) := by decide +kernel
theorem dX4_init_65 : decode cX4_init 65 = .ok (.aload_n 0, 1) := by decide +kernel
theorem dX4_init_66 : decode cX4_init 66 = .ok (.getfield 11, 3) := by decide +kernel
theorem dX4_init_69 : decode cX4_init 69 = .ok (.iload_n 1, 1) := by decide +kernel
theorem dX4_init_70 : decode cX4_init 70 = .ok (.new 9, 3) := by decide +kernel
theorem dX4_init_73 : decode cX4_init 73 = .ok (.dup, 1) := by decide +kernel
theorem dX4_init_74 : decode cX4_init 74 = .ok (.invokespecial 15, 3) := by decide +kernel
theorem dX4_init_77 : decode cX4_init 77 = .ok (.aastore, 1) := by decide +kernel
theorem dX4_init_78 : decode cX4_init 78 = .ok (.iinc 1 1, 3) := by decide +kernel
theorem dX4_init_81 : decode cX4_init 81 = .ok (.goto (-22), 3) := by decide +kernel
theorem dX4_init_84 : decode cX4_init 84 = .ok (.return_, 1) := by decide +kernel
theorem dX4_addRegion_0 : decode cX4_addRegion 0 = .ok (.aload_n 0, 1) := by decide +kernel
theorem dX4_addRegion_1 : decode cX4_addRegion 1 = .ok (.getfield 41, 3) := by decide +kernel
theorem dX4_addRegion_4 : decode cX4_addRegion 4 = .ok (.bipush 6, 2) := by decide +kernel
theorem dX4_addRegion_6 : decode cX4_addRegion 6 = .ok (.if_icmp .lt 13, 3) := by decide +kernel
theorem dX4_addRegion_9 : decode cX4_addRegion 9 = .ok (.new 45, 3) := by decide +kernel
theorem dX4_addRegion_12 : decode cX4_addRegion 12 = .ok (.dup, 1) := by decide +kernel
theorem dX4_addRegion_13 : decode cX4_addRegion 13 = .ok (.ldc 47, 2) := by decide +kernel
theorem dX4_addRegion_15 : decode cX4_addRegion 15 = .ok (.invokespecial 49, 3) := by decide +kernel
theorem dX4_addRegion_18 : decode cX4_addRegion 18 = .ok (.athrow, 1) := by decide +kernel
theorem dX4_addRegion_19 : decode cX4_addRegion 19 = .ok (.aload_n 0, 1) := by decide +kernel
theorem dX4_addRegion_20 : decode cX4_addRegion 20 = .ok (.dup, 1) := by decide +kernel
theorem dX4_addRegion_21 : decode cX4_addRegion 21 = .ok (.getfield 41, 3) := by decide +kernel
theorem dX4_addRegion_24 : decode cX4_addRegion 24 = .ok (.dup_x1, 1) := by decide +kernel
theorem dX4_addRegion_25 : decode cX4_addRegion 25 = .ok (.iconst 1, 1) := by decide +kernel
theorem dX4_addRegion_26 : decode cX4_addRegion 26 = .ok (.iadd, 1) := by decide +kernel
theorem dX4_addRegion_27 : decode cX4_addRegion 27 = .ok (.putfield 41, 3) := by decide +kernel
theorem dX4_addRegion_30 : decode cX4_addRegion 30 = .ok (.ireturn, 1) := by decide +kernel
set_option maxRecDepth 20000 in
theorem ggX4_weather_X4_checkRegion : GoodIn wsX4_weather wsX4_checkRegion := goodIn_ca (goodIn_r _ [6, 7, 8, 9, 25, 26, 27, 28, 29, 30, 31] (by decide +kernel) (by decide +kernel)) (goodIn_sub (fun _ h => List.mem_cons_of_mem _ (List.mem_append_left _ (List.mem_append_right _ h))) (by decide +kernel))
set_option maxRecDepth 20000 in
theorem gX4_weather_X4_checkRegion : GoodIn wsX4_weather (wsV RX4 52 RX4 yX4_checkRegion wsX4_checkRegion) := goodIn_app (goodIn_of _ (by decide +kernel)) ggX4_weather_X4_checkRegion
set_option maxRecDepth 20000 in
theorem ggX4_weather_X4_checkWeather : GoodIn wsX4_weather wsX4_checkWeather := goodIn_ca (goodIn_r _ [12, 13, 14] (by decide +kernel) (by decide +kernel)) (goodIn_sub (fun _ h => List.mem_cons_of_mem _ (List.mem_append_right _ h)) (by decide +kernel))
set_option maxRecDepth 20000 in
theorem gX4_weather_X4_checkWeather : GoodIn wsX4_weather (va_wsS RX4 56 yX4_checkWeather wsX4_checkWeather) := goodIn_app (goodIn_of _ (by decide +kernel)) ggX4_weather_X4_checkWeather
set_option maxRecDepth 20000 in
theorem ggX4_weather_X2_tellWeather : GoodIn wsX4_weather wsX2_tellWeather := goodIn_r _ [19, 20, 21, 22, 23, 24, 32, 33, 34, 35, 36, 37] (by decide +kernel) (by decide +kernel)
set_option maxRecDepth 20000 in
theorem gX4_weather_X2_tellWeather : GoodIn wsX4_weather (wsV RX4 64 RX2 yX2_tellWeather wsX2_tellWeather) := goodIn_app (goodIn_of _ (by decide +kernel)) ggX4_weather_X2_tellWeather
theorem dX4_weather_0 : decode cX4_weather 0 = .ok (.aload_n 0, 1) := by decide +kernel
theorem dX4_weather_1 : decode cX4_weather 1 = .ok (.iload_n 1, 1) := by decide +kernel
theorem dX4_weather_2 : decode cX4_weather 2 = .ok (.invokevirtual 52, 3) := by decide +kernel
theorem dX4_weather_5 : decode cX4_weather 5 = .ok (.iload_n 2, 1) := by decide +kernel
theorem dX4_weather_6 : decode cX4_weather 6 = .ok (.iload_n 3, 1) := by decide +kernel
theorem dX4_weather_7 : decode cX4_weather 7 = .ok (.iload 4, 2) := by decide +kernel
theorem dX4_weather_9 : decode cX4_weather 9 = .ok (.iload 5, 2) := by decide +kernel
theorem dX4_weather_11 : decode cX4_weather 11 = .ok (.invokestatic 56, 3) := by decide +kernel
theorem dX4_weather_14 : decode cX4_weather 14 = .ok (.aload_n 0, 1) := by decide +kernel
theorem dX4_weather_15 : decode cX4_weather 15 = .ok (.getfield 11, 3) := by decide +kernel
theorem dX4_weather_18 : decode cX4_weather 18 = .ok (.iload_n 1, 1) := by decide +kernel
theorem dX4_weather_19 : decode cX4_weather 19 = .ok (.aaload, 1) := by decide +kernel
theorem dX4_weather_20 : decode cX4_weather 20 = .ok (.astore 6, 2) := by decide +kernel
theorem dX4_weather_22 : decode cX4_weather 22 = .ok (.aload 6, 2) := by decide +kernel
theorem dX4_weather_24 : decode cX4_weather 24 = .ok (.getfield 60, 3) := by decide +kernel
theorem dX4_weather_27 : decode cX4_weather 27 = .ok (.ifCond .ne 7, 3) := by decide +kernel
theorem dX4_weather_30 : decode cX4_weather 30 = .ok (.iconst 1, 1) := by decide +kernel
theorem dX4_weather_31 : decode cX4_weather 31 = .ok (.goto 4, 3) := by decide +kernel
theorem dX4_weather_34 : decode cX4_weather 34 = .ok (.iconst 0, 1) := by decide +kernel
theorem dX4_weather_35 : decode cX4_weather 35 = .ok (.istore 7, 2) := by decide +kernel
theorem dX4_weather_37 : decode cX4_weather 37 = .ok (.aload 6, 2) := by decide +kernel
theorem dX4_weather_39 : decode cX4_weather 39 = .ok (.iload_n 2, 1) := by decide +kernel
theorem dX4_weather_40 : decode cX4_weather 40 = .ok (.iload_n 3, 1) := by decide +kernel
theorem dX4_weather_41 : decode cX4_weather 41 = .ok (.iload 4, 2) := by decide +kernel
theorem dX4_weather_43 : decode cX4_weather 43 = .ok (.iload 5, 2) := by decide +kernel
theorem dX4_weather_45 : decode cX4_weather 45 = .ok (.invokevirtual 64, 3) := by decide +kernel
theorem dX4_weather_48 : decode cX4_weather 48 = .ok (.iload 7, 2) := by decide +kernel
theorem dX4_weather_50 : decode cX4_weather 50 = .ok (.ireturn, 1) := by decide +kernel
set_option maxRecDepth 20000 in
theorem ggX4_end_X2_passDay : GoodIn wsX4_end wsX2_passDay := goodIn_r _ [10, 11, 12, 13, 14, 15, 9, 16, 17, 18, 19, 20, 21, 22, 23, 24, 25, 26, 27, 28, 29, 30, 31, 32, 33, 34, 35, 36, 37, 38, 39, 40, 41, 42, 43, 44, 45, 46, 47, 48, 49, 50, 51, 52, 53, 54, 71, 72, 73, 74, 75, 76] (by decide +kernel) (by decide +kernel)
set_option maxRecDepth 20000 in
theorem gX4_end_X2_passDay : GoodIn wsX4_end (wsV RX4 72 RX2 yX2_passDay wsX2_passDay) := goodIn_app (goodIn_of _ (by decide +kernel)) ggX4_end_X2_passDay
set_option maxRecDepth 20000 in
theorem ggX4_end_X2_forgetWeather : GoodIn wsX4_end wsX2_forgetWeather := goodIn_r _ [58, 59, 60, 61, 62, 9, 63, 12, 41, 42, 11, 71, 72, 73, 74, 75, 76] (by decide +kernel) (by decide +kernel)
set_option maxRecDepth 20000 in
theorem gX4_end_X2_forgetWeather : GoodIn wsX4_end (wsV RX4 75 RX2 yX2_forgetWeather wsX2_forgetWeather) := goodIn_app (goodIn_of _ (by decide +kernel)) ggX4_end_X2_forgetWeather
theorem dX4_end_0 : decode cX4_end 0 = .ok (.aload_n 0, 1) := by decide +kernel
theorem dX4_end_1 : decode cX4_end 1 = .ok (.getfield 67, 3) := by decide +kernel
theorem dX4_end_4 : decode cX4_end 4 = .ok (.bipush 60, 2) := by decide +kernel
theorem dX4_end_6 : decode cX4_end 6 = .ok (.if_icmp .lt 13, 3) := by decide +kernel
theorem dX4_end_9 : decode cX4_end 9 = .ok (.new 45, 3) := by decide +kernel
theorem dX4_end_12 : decode cX4_end 12 = .ok (.dup, 1) := by decide +kernel
theorem dX4_end_13 : decode cX4_end 13 = .ok (.ldc 70, 2) := by decide +kernel
theorem dX4_end_15 : decode cX4_end 15 = .ok (.invokespecial 49, 3) := by decide +kernel
theorem dX4_end_18 : decode cX4_end 18 = .ok (.athrow, 1) := by decide +kernel
theorem dX4_end_19 : decode cX4_end 19 = .ok (.iconst 0, 1) := by decide +kernel
theorem dX4_end_20 : decode cX4_end 20 = .ok (.istore_n 1, 1) := by decide +kernel
theorem dX4_end_21 : decode cX4_end 21 = .ok (.iload_n 1, 1) := by decide +kernel
theorem dX4_end_22 : decode cX4_end 22 = .ok (.aload_n 0, 1) := by decide +kernel
theorem dX4_end_23 : decode cX4_end 23 = .ok (.getfield 41, 3) := by decide +kernel
theorem dX4_end_26 : decode cX4_end 26 = .ok (.if_icmp .ge 27, 3) := by decide +kernel
theorem dX4_end_29 : decode cX4_end 29 = .ok (.aload_n 0, 1) := by decide +kernel
theorem dX4_end_30 : decode cX4_end 30 = .ok (.getfield 11, 3) := by decide +kernel
theorem dX4_end_33 : decode cX4_end 33 = .ok (.iload_n 1, 1) := by decide +kernel
theorem dX4_end_34 : decode cX4_end 34 = .ok (.aaload, 1) := by decide +kernel
theorem dX4_end_35 : decode cX4_end 35 = .ok (.invokevirtual 72, 3) := by decide +kernel
theorem dX4_end_38 : decode cX4_end 38 = .ok (.aload_n 0, 1) := by decide +kernel
theorem dX4_end_39 : decode cX4_end 39 = .ok (.getfield 11, 3) := by decide +kernel
theorem dX4_end_42 : decode cX4_end 42 = .ok (.iload_n 1, 1) := by decide +kernel
theorem dX4_end_43 : decode cX4_end 43 = .ok (.aaload, 1) := by decide +kernel
theorem dX4_end_44 : decode cX4_end 44 = .ok (.invokevirtual 75, 3) := by decide +kernel
theorem dX4_end_47 : decode cX4_end 47 = .ok (.iinc 1 1, 3) := by decide +kernel
theorem dX4_end_50 : decode cX4_end 50 = .ok (.goto (-29), 3) := by decide +kernel
theorem dX4_end_53 : decode cX4_end 53 = .ok (.aload_n 0, 1) := by decide +kernel
theorem dX4_end_54 : decode cX4_end 54 = .ok (.dup, 1) := by decide +kernel
theorem dX4_end_55 : decode cX4_end 55 = .ok (.getfield 67, 3) := by decide +kernel
theorem dX4_end_58 : decode cX4_end 58 = .ok (.iconst 1, 1) := by decide +kernel
theorem dX4_end_59 : decode cX4_end 59 = .ok (.iadd, 1) := by decide +kernel
theorem dX4_end_60 : decode cX4_end 60 = .ok (.dup_x1, 1) := by decide +kernel
theorem dX4_end_61 : decode cX4_end 61 = .ok (.putfield 67, 3) := by decide +kernel
theorem dX4_end_64 : decode cX4_end 64 = .ok (.ireturn, 1) := by decide +kernel
theorem dX4_day_0 : decode cX4_day 0 = .ok (.aload_n 0, 1) := by decide +kernel
theorem dX4_day_1 : decode cX4_day 1 = .ok (.getfield 67, 3) := by decide +kernel
theorem dX4_day_4 : decode cX4_day 4 = .ok (.ireturn, 1) := by decide +kernel
set_option maxRecDepth 20000 in
theorem ggX4_sector_X4_checkRegion : GoodIn wsX4_sector wsX4_checkRegion := goodIn_ca (goodIn_r _ [6, 7, 8, 9, 22, 23, 24, 25, 26, 27, 28] (by decide +kernel) (by decide +kernel)) (goodIn_sub (fun _ h => List.mem_cons_of_mem _ (List.mem_append_right _ h)) (by decide +kernel))
set_option maxRecDepth 20000 in
theorem gX4_sector_X4_checkRegion : GoodIn wsX4_sector (wsV RX4 52 RX4 yX4_checkRegion wsX4_checkRegion) := goodIn_app (goodIn_of _ (by decide +kernel)) ggX4_sector_X4_checkRegion
set_option maxRecDepth 20000 in
theorem ggX4_sector_X4_checkSector : GoodIn wsX4_sector wsX4_checkSector := goodIn_ca (goodIn_r _ [12, 7, 8] (by decide +kernel) (by decide +kernel)) (goodIn_sub (fun _ h => List.mem_cons_of_mem _ (List.mem_append_right _ h)) (by decide +kernel))
set_option maxRecDepth 20000 in
theorem gX4_sector_X4_checkSector : GoodIn wsX4_sector (va_wsS RX4 78 yX4_checkSector wsX4_checkSector) := goodIn_app (goodIn_of _ (by decide +kernel)) ggX4_sector_X4_checkSector
set_option maxRecDepth 20000 in
theorem ggX4_sector_X4_checkNumber : GoodIn wsX4_sector wsX4_checkNumber := goodIn_ca (goodIn_r _ [15, 7, 8] (by decide +kernel) (by decide +kernel)) (goodIn_sub (fun _ h => List.mem_cons_of_mem _ (List.mem_append_right _ h)) (by decide +kernel))
set_option maxRecDepth 20000 in
theorem gX4_sector_X4_checkNumber : GoodIn wsX4_sector (va_wsS RX4 81 yX4_checkNumber wsX4_checkNumber) := goodIn_app (goodIn_of _ (by decide +kernel)) ggX4_sector_X4_checkNumber
set_option maxRecDepth 20000 in
theorem ggX4_sector_X2_numberAt : GoodIn wsX4_sector wsX2_numberAt := goodIn_r _ [20, 21, 29, 30, 31, 32, 33, 34] (by decide +kernel) (by decide +kernel)
set_option maxRecDepth 20000 in
theorem gX4_sector_X2_numberAt : GoodIn wsX4_sector (wsV RX4 84 RX2 yX2_numberAt wsX2_numberAt) := goodIn_app (goodIn_of _ (by decide +kernel)) ggX4_sector_X2_numberAt
theorem dX4_sector_0 : decode cX4_sector 0 = .ok (.aload_n 0, 1) := by decide +kernel
theorem dX4_sector_1 : decode cX4_sector 1 = .ok (.iload_n 1, 1) := by decide +kernel
theorem dX4_sector_2 : decode cX4_sector 2 = .ok (.invokevirtual 52, 3) := by decide +kernel
theorem dX4_sector_5 : decode cX4_sector 5 = .ok (.iload_n 2, 1) := by decide +kernel
theorem dX4_sector_6 : decode cX4_sector 6 = .ok (.invokestatic 78, 3) := by decide +kernel
theorem dX4_sector_9 : decode cX4_sector 9 = .ok (.iload_n 3, 1) := by decide +kernel
theorem dX4_sector_10 : decode cX4_sector 10 = .ok (.invokestatic 81, 3) := by decide +kernel
theorem dX4_sector_13 : decode cX4_sector 13 = .ok (.aload_n 0, 1) := by decide +kernel
theorem dX4_sector_14 : decode cX4_sector 14 = .ok (.getfield 11, 3) := by decide +kernel
theorem dX4_sector_17 : decode cX4_sector 17 = .ok (.iload_n 1, 1) := by decide +kernel
theorem dX4_sector_18 : decode cX4_sector 18 = .ok (.aaload, 1) := by decide +kernel
theorem dX4_sector_19 : decode cX4_sector 19 = .ok (.iload_n 2, 1) := by decide +kernel
theorem dX4_sector_20 : decode cX4_sector 20 = .ok (.iload_n 3, 1) := by decide +kernel
theorem dX4_sector_21 : decode cX4_sector 21 = .ok (.invokevirtual 84, 3) := by decide +kernel
theorem dX4_sector_24 : decode cX4_sector 24 = .ok (.ireturn, 1) := by decide +kernel
set_option maxRecDepth 20000 in
theorem ggX4_problem_X4_checkRegion : GoodIn wsX4_problem wsX4_checkRegion := goodIn_ca (goodIn_r _ [8, 1, 2, 9, 27, 28, 29, 30, 31, 32, 33] (by decide +kernel) (by decide +kernel)) (goodIn_sub (fun _ h => List.mem_cons_of_mem _ (List.mem_append_right _ h)) (by decide +kernel))
set_option maxRecDepth 20000 in
theorem gX4_problem_X4_checkRegion : GoodIn wsX4_problem (wsV RX4 52 RX4 yX4_checkRegion wsX4_checkRegion) := goodIn_app (goodIn_of _ (by decide +kernel)) ggX4_problem_X4_checkRegion
set_option maxRecDepth 20000 in
theorem ggX4_problem_X4_checkSector : GoodIn wsX4_problem wsX4_checkSector := goodIn_ca (goodIn_r _ [12, 1, 2] (by decide +kernel) (by decide +kernel)) (goodIn_sub (fun _ h => List.mem_cons_of_mem _ (List.mem_append_right _ h)) (by decide +kernel))
set_option maxRecDepth 20000 in
theorem gX4_problem_X4_checkSector : GoodIn wsX4_problem (va_wsS RX4 78 yX4_checkSector wsX4_checkSector) := goodIn_app (goodIn_of _ (by decide +kernel)) ggX4_problem_X4_checkSector
set_option maxRecDepth 20000 in
theorem ggX4_problem_X2_problemAt : GoodIn wsX4_problem wsX2_problemAt := goodIn_r _ [17, 18, 19, 20, 21, 22, 23, 24, 16, 25, 26, 34, 35, 36, 37, 38, 39] (by decide +kernel) (by decide +kernel)
set_option maxRecDepth 20000 in
theorem gX4_problem_X2_problemAt : GoodIn wsX4_problem (wsV RX4 106 RX2 yX2_problemAt wsX2_problemAt) := goodIn_app (goodIn_of _ (by decide +kernel)) ggX4_problem_X2_problemAt
theorem dX4_problem_0 : decode cX4_problem 0 = .ok (.aload_n 0, 1) := by decide +kernel
theorem dX4_problem_1 : decode cX4_problem 1 = .ok (.iload_n 1, 1) := by decide +kernel
theorem dX4_problem_2 : decode cX4_problem 2 = .ok (.invokevirtual 52, 3) := by decide +kernel
theorem dX4_problem_5 : decode cX4_problem 5 = .ok (.iload_n 2, 1) := by decide +kernel
theorem dX4_problem_6 : decode cX4_problem 6 = .ok (.invokestatic 78, 3) := by decide +kernel
theorem dX4_problem_9 : decode cX4_problem 9 = .ok (.iload_n 3, 1) := by decide +kernel
theorem dX4_problem_10 : decode cX4_problem 10 = .ok (.ifCond .lt 8, 3) := by decide +kernel
theorem dX4_problem_13 : decode cX4_problem 13 = .ok (.iload_n 3, 1) := by decide +kernel
theorem dX4_problem_14 : decode cX4_problem 14 = .ok (.iconst 4, 1) := by decide +kernel
theorem dX4_problem_15 : decode cX4_problem 15 = .ok (.if_icmp .lt 13, 3) := by decide +kernel
theorem dX4_problem_18 : decode cX4_problem 18 = .ok (.new 101, 3) := by decide +kernel
theorem dX4_problem_21 : decode cX4_problem 21 = .ok (.dup, 1) := by decide +kernel
theorem dX4_problem_22 : decode cX4_problem 22 = .ok (.ldc 103, 2) := by decide +kernel
theorem dX4_problem_24 : decode cX4_problem 24 = .ok (.invokespecial 105, 3) := by decide +kernel
theorem dX4_problem_27 : decode cX4_problem 27 = .ok (.athrow, 1) := by decide +kernel
theorem dX4_problem_28 : decode cX4_problem 28 = .ok (.aload_n 0, 1) := by decide +kernel
theorem dX4_problem_29 : decode cX4_problem 29 = .ok (.getfield 11, 3) := by decide +kernel
theorem dX4_problem_32 : decode cX4_problem 32 = .ok (.iload_n 1, 1) := by decide +kernel
theorem dX4_problem_33 : decode cX4_problem 33 = .ok (.aaload, 1) := by decide +kernel
theorem dX4_problem_34 : decode cX4_problem 34 = .ok (.iload_n 2, 1) := by decide +kernel
theorem dX4_problem_35 : decode cX4_problem 35 = .ok (.iload_n 3, 1) := by decide +kernel
theorem dX4_problem_36 : decode cX4_problem 36 = .ok (.invokevirtual 106, 3) := by decide +kernel
theorem dX4_problem_39 : decode cX4_problem 39 = .ok (.ireturn, 1) := by decide +kernel
set_option maxRecDepth 20000 in
theorem ggX4_danger_X4_checkRegion : GoodIn wsX4_danger wsX4_checkRegion := goodIn_ca (goodIn_r _ [6, 7, 8, 9, 37, 38, 39, 40, 41, 42, 43] (by decide +kernel) (by decide +kernel)) (goodIn_sub (fun _ h => List.mem_cons_of_mem _ (List.mem_append_right _ h)) (by decide +kernel))
set_option maxRecDepth 20000 in
theorem gX4_danger_X4_checkRegion : GoodIn wsX4_danger (wsV RX4 52 RX4 yX4_checkRegion wsX4_checkRegion) := goodIn_app (goodIn_of _ (by decide +kernel)) ggX4_danger_X4_checkRegion
set_option maxRecDepth 20000 in
theorem ggX4_danger_X4_checkSector : GoodIn wsX4_danger wsX4_checkSector := goodIn_ca (goodIn_r _ [12, 7, 8] (by decide +kernel) (by decide +kernel)) (goodIn_sub (fun _ h => List.mem_cons_of_mem _ (List.mem_append_right _ h)) (by decide +kernel))
set_option maxRecDepth 20000 in
theorem gX4_danger_X4_checkSector : GoodIn wsX4_danger (va_wsS RX4 78 yX4_checkSector wsX4_checkSector) := goodIn_app (goodIn_of _ (by decide +kernel)) ggX4_danger_X4_checkSector
set_option maxRecDepth 20000 in
theorem ggX4_danger_X2_dangerAt : GoodIn wsX4_danger wsX2_dangerAt := goodIn_r _ [17, 18, 19, 20, 21, 22, 23, 24, 25, 26, 27, 16, 28, 29, 30, 31, 32, 33, 44, 45, 46, 47, 48, 49] (by decide +kernel) (by decide +kernel)
set_option maxRecDepth 20000 in
theorem gX4_danger_X2_dangerAt : GoodIn wsX4_danger (wsV RX4 109 RX2 yX2_dangerAt wsX2_dangerAt) := goodIn_app (goodIn_of _ (by decide +kernel)) ggX4_danger_X2_dangerAt
set_option maxRecDepth 20000 in
theorem ggX4_danger_X2_levelOfDanger : GoodIn wsX4_danger wsX2_levelOfDanger := goodIn_r _ [36] (by decide +kernel) (by decide +kernel)
set_option maxRecDepth 20000 in
theorem gX4_danger_X2_levelOfDanger : GoodIn wsX4_danger (va_wsS RX4 112 yX2_levelOfDanger wsX2_levelOfDanger) := goodIn_app (goodIn_of _ (by decide +kernel)) ggX4_danger_X2_levelOfDanger
theorem dX4_danger_0 : decode cX4_danger 0 = .ok (.aload_n 0, 1) := by decide +kernel
theorem dX4_danger_1 : decode cX4_danger 1 = .ok (.iload_n 1, 1) := by decide +kernel
theorem dX4_danger_2 : decode cX4_danger 2 = .ok (.invokevirtual 52, 3) := by decide +kernel
theorem dX4_danger_5 : decode cX4_danger 5 = .ok (.iload_n 2, 1) := by decide +kernel
theorem dX4_danger_6 : decode cX4_danger 6 = .ok (.invokestatic 78, 3) := by decide +kernel
theorem dX4_danger_9 : decode cX4_danger 9 = .ok (.aload_n 0, 1) := by decide +kernel
theorem dX4_danger_10 : decode cX4_danger 10 = .ok (.getfield 11, 3) := by decide +kernel
theorem dX4_danger_13 : decode cX4_danger 13 = .ok (.iload_n 1, 1) := by decide +kernel
theorem dX4_danger_14 : decode cX4_danger 14 = .ok (.aaload, 1) := by decide +kernel
theorem dX4_danger_15 : decode cX4_danger 15 = .ok (.iload_n 2, 1) := by decide +kernel
theorem dX4_danger_16 : decode cX4_danger 16 = .ok (.invokevirtual 109, 3) := by decide +kernel
theorem dX4_danger_19 : decode cX4_danger 19 = .ok (.istore 4, 2) := by decide +kernel
theorem dX4_danger_21 : decode cX4_danger 21 = .ok (.iload_n 3, 1) := by decide +kernel
theorem dX4_danger_22 : decode cX4_danger 22 = .ok (.ifCond .eq 11, 3) := by decide +kernel
theorem dX4_danger_25 : decode cX4_danger 25 = .ok (.iload 4, 2) := by decide +kernel
theorem dX4_danger_27 : decode cX4_danger 27 = .ok (.invokestatic 112, 3) := by decide +kernel
theorem dX4_danger_30 : decode cX4_danger 30 = .ok (.goto 5, 3) := by decide +kernel
theorem dX4_danger_33 : decode cX4_danger 33 = .ok (.iload 4, 2) := by decide +kernel
theorem dX4_danger_35 : decode cX4_danger 35 = .ok (.ireturn, 1) := by decide +kernel
set_option maxRecDepth 20000 in
theorem ggX4_level_X4_checkRegion : GoodIn wsX4_level wsX4_checkRegion := goodIn_ca (goodIn_r _ [6, 7, 8, 9, 38, 39, 40, 41, 42, 43, 44] (by decide +kernel) (by decide +kernel)) (goodIn_sub (fun _ h => List.mem_cons_of_mem _ (List.mem_append_right _ h)) (by decide +kernel))
set_option maxRecDepth 20000 in
theorem gX4_level_X4_checkRegion : GoodIn wsX4_level (wsV RX4 52 RX4 yX4_checkRegion wsX4_checkRegion) := goodIn_app (goodIn_of _ (by decide +kernel)) ggX4_level_X4_checkRegion
set_option maxRecDepth 20000 in
theorem ggX4_level_X2_findLevel : GoodIn wsX4_level wsX2_findLevel := goodIn_r _ [14, 15, 16, 17, 18, 19, 20, 21, 22, 23, 24, 13, 25, 26, 27, 28, 29, 30, 31, 32, 33, 34, 35, 36, 37, 45, 46, 47, 48, 49, 50] (by decide +kernel) (by decide +kernel)
set_option maxRecDepth 20000 in
theorem gX4_level_X2_findLevel : GoodIn wsX4_level (wsV RX4 115 RX2 yX2_findLevel wsX2_findLevel) := goodIn_app (goodIn_of _ (by decide +kernel)) ggX4_level_X2_findLevel
theorem dX4_level_0 : decode cX4_level 0 = .ok (.aload_n 0, 1) := by decide +kernel
theorem dX4_level_1 : decode cX4_level 1 = .ok (.iload_n 1, 1) := by decide +kernel
theorem dX4_level_2 : decode cX4_level 2 = .ok (.invokevirtual 52, 3) := by decide +kernel
theorem dX4_level_5 : decode cX4_level 5 = .ok (.aload_n 0, 1) := by decide +kernel
theorem dX4_level_6 : decode cX4_level 6 = .ok (.getfield 11, 3) := by decide +kernel
theorem dX4_level_9 : decode cX4_level 9 = .ok (.iload_n 1, 1) := by decide +kernel
theorem dX4_level_10 : decode cX4_level 10 = .ok (.aaload, 1) := by decide +kernel
theorem dX4_level_11 : decode cX4_level 11 = .ok (.invokevirtual 115, 3) := by decide +kernel
theorem dX4_level_14 : decode cX4_level 14 = .ok (.ireturn, 1) := by decide +kernel
set_option maxRecDepth 20000 in
theorem ggX4_core_X4_checkRegion : GoodIn wsX4_core wsX4_checkRegion := goodIn_ca (goodIn_r _ [6, 7, 8, 9, 42, 43, 44, 45, 46, 47, 48] (by decide +kernel) (by decide +kernel)) (goodIn_sub (fun _ h => List.mem_cons_of_mem _ (List.mem_append_right _ h)) (by decide +kernel))
set_option maxRecDepth 20000 in
theorem gX4_core_X4_checkRegion : GoodIn wsX4_core (wsV RX4 52 RX4 yX4_checkRegion wsX4_checkRegion) := goodIn_app (goodIn_of _ (by decide +kernel)) ggX4_core_X4_checkRegion
set_option maxRecDepth 20000 in
theorem ggX4_core_X2_findLevel : GoodIn wsX4_core wsX2_findLevel := goodIn_r _ [14, 15, 16, 17, 18, 19, 20, 21, 22, 23, 24, 13, 25, 26, 27, 28, 29, 30, 31, 32, 33, 34, 35, 36, 37, 49, 50, 51, 52, 53, 54] (by decide +kernel) (by decide +kernel)
set_option maxRecDepth 20000 in
theorem gX4_core_X2_findLevel : GoodIn wsX4_core (wsV RX4 115 RX2 yX2_findLevel wsX2_findLevel) := goodIn_app (goodIn_of _ (by decide +kernel)) ggX4_core_X2_findLevel
set_option maxRecDepth 20000 in
theorem ggX4_core_X2_findCore : GoodIn wsX4_core wsX2_findCore := goodIn_r _ [41, 22, 23, 24, 13, 25, 15, 16, 17, 18, 19, 20, 21, 26, 27, 28, 29, 30, 31, 32, 33, 34, 35, 36, 37, 49, 50, 51, 52, 53, 54] (by decide +kernel) (by decide +kernel)
set_option maxRecDepth 20000 in
theorem gX4_core_X2_findCore : GoodIn wsX4_core (wsV RX4 119 RX2 yX2_findCore wsX2_findCore) := goodIn_app (goodIn_of _ (by decide +kernel)) ggX4_core_X2_findCore
theorem dX4_core_0 : decode cX4_core 0 = .ok (.aload_n 0, 1) := by decide +kernel
theorem dX4_core_1 : decode cX4_core 1 = .ok (.iload_n 1, 1) := by decide +kernel
theorem dX4_core_2 : decode cX4_core 2 = .ok (.invokevirtual 52, 3) := by decide +kernel
theorem dX4_core_5 : decode cX4_core 5 = .ok (.aload_n 0, 1) := by decide +kernel
theorem dX4_core_6 : decode cX4_core 6 = .ok (.getfield 11, 3) := by decide +kernel
theorem dX4_core_9 : decode cX4_core 9 = .ok (.iload_n 1, 1) := by decide +kernel
theorem dX4_core_10 : decode cX4_core 10 = .ok (.aaload, 1) := by decide +kernel
theorem dX4_core_11 : decode cX4_core 11 = .ok (.aload_n 0, 1) := by decide +kernel
theorem dX4_core_12 : decode cX4_core 12 = .ok (.getfield 11, 3) := by decide +kernel
theorem dX4_core_15 : decode cX4_core 15 = .ok (.iload_n 1, 1) := by decide +kernel
theorem dX4_core_16 : decode cX4_core 16 = .ok (.aaload, 1) := by decide +kernel
theorem dX4_core_17 : decode cX4_core 17 = .ok (.invokevirtual 115, 3) := by decide +kernel
theorem dX4_core_20 : decode cX4_core 20 = .ok (.invokevirtual 119, 3) := by decide +kernel
theorem dX4_core_23 : decode cX4_core 23 = .ok (.ireturn, 1) := by decide +kernel
set_option maxRecDepth 20000 in
theorem ggX4_mainProblem_X4_checkRegion : GoodIn wsX4_mainProblem wsX4_checkRegion := goodIn_ca (goodIn_r _ [6, 7, 8, 9, 52, 53, 54, 55, 56, 57, 58] (by decide +kernel) (by decide +kernel)) (goodIn_sub (fun _ h => List.mem_cons_of_mem _ (List.mem_append_right _ h)) (by decide +kernel))
set_option maxRecDepth 20000 in
theorem gX4_mainProblem_X4_checkRegion : GoodIn wsX4_mainProblem (wsV RX4 52 RX4 yX4_checkRegion wsX4_checkRegion) := goodIn_app (goodIn_of _ (by decide +kernel)) ggX4_mainProblem_X4_checkRegion
set_option maxRecDepth 20000 in
theorem ggX4_mainProblem_X2_findLevel : GoodIn wsX4_mainProblem wsX2_findLevel := goodIn_r _ [14, 15, 16, 17, 18, 19, 20, 21, 22, 23, 24, 13, 25, 26, 27, 28, 29, 30, 31, 32, 33, 34, 35, 36, 37, 59, 60, 61, 62, 63, 64] (by decide +kernel) (by decide +kernel)
set_option maxRecDepth 20000 in
theorem gX4_mainProblem_X2_findLevel : GoodIn wsX4_mainProblem (wsV RX4 115 RX2 yX2_findLevel wsX2_findLevel) := goodIn_app (goodIn_of _ (by decide +kernel)) ggX4_mainProblem_X2_findLevel
set_option maxRecDepth 20000 in
theorem ggX4_mainProblem_X2_findCore : GoodIn wsX4_mainProblem wsX2_findCore := goodIn_r _ [41, 22, 23, 24, 13, 25, 15, 16, 17, 18, 19, 20, 21, 26, 27, 28, 29, 30, 31, 32, 33, 34, 35, 36, 37, 59, 60, 61, 62, 63, 64] (by decide +kernel) (by decide +kernel)
set_option maxRecDepth 20000 in
theorem gX4_mainProblem_X2_findCore : GoodIn wsX4_mainProblem (wsV RX4 119 RX2 yX2_findCore wsX2_findCore) := goodIn_app (goodIn_of _ (by decide +kernel)) ggX4_mainProblem_X2_findCore
set_option maxRecDepth 20000 in
theorem ggX4_mainProblem_X2_findProblem : GoodIn wsX4_mainProblem wsX2_findProblem := goodIn_r _ [45, 46, 47, 48, 13, 49, 50, 5, 51, 26, 27, 28, 29, 15, 16, 17, 18, 30, 31, 32, 33, 34, 59, 60, 61, 62, 63, 64] (by decide +kernel) (by decide +kernel)
set_option maxRecDepth 20000 in
theorem gX4_mainProblem_X2_findProblem : GoodIn wsX4_mainProblem (wsV RX4 122 RX2 yX2_findProblem wsX2_findProblem) := goodIn_app (goodIn_of _ (by decide +kernel)) ggX4_mainProblem_X2_findProblem
theorem dX4_mainProblem_0 : decode cX4_mainProblem 0 = .ok (.aload_n 0, 1) := by decide +kernel
theorem dX4_mainProblem_1 : decode cX4_mainProblem 1 = .ok (.iload_n 1, 1) := by decide +kernel
theorem dX4_mainProblem_2 : decode cX4_mainProblem 2 = .ok (.invokevirtual 52, 3) := by decide +kernel
theorem dX4_mainProblem_5 : decode cX4_mainProblem 5 = .ok (.aload_n 0, 1) := by decide +kernel
theorem dX4_mainProblem_6 : decode cX4_mainProblem 6 = .ok (.getfield 11, 3) := by decide +kernel
theorem dX4_mainProblem_9 : decode cX4_mainProblem 9 = .ok (.iload_n 1, 1) := by decide +kernel
theorem dX4_mainProblem_10 : decode cX4_mainProblem 10 = .ok (.aaload, 1) := by decide +kernel
theorem dX4_mainProblem_11 : decode cX4_mainProblem 11 = .ok (.astore_n 2, 1) := by decide +kernel
theorem dX4_mainProblem_12 : decode cX4_mainProblem 12 = .ok (.aload_n 2, 1) := by decide +kernel
theorem dX4_mainProblem_13 : decode cX4_mainProblem 13 = .ok (.aload_n 2, 1) := by decide +kernel
theorem dX4_mainProblem_14 : decode cX4_mainProblem 14 = .ok (.aload_n 2, 1) := by decide +kernel
theorem dX4_mainProblem_15 : decode cX4_mainProblem 15 = .ok (.invokevirtual 115, 3) := by decide +kernel
theorem dX4_mainProblem_18 : decode cX4_mainProblem 18 = .ok (.invokevirtual 119, 3) := by decide +kernel
theorem dX4_mainProblem_21 : decode cX4_mainProblem 21 = .ok (.invokevirtual 122, 3) := by decide +kernel
theorem dX4_mainProblem_24 : decode cX4_mainProblem 24 = .ok (.ireturn, 1) := by decide +kernel
set_option maxRecDepth 20000 in
theorem ggX4_publish_X1_hasDay : GoodIn wsX4_publish wsX1_hasDay := goodIn_r _ [15, 16, 17, 18, 14, 19, 20, 81, 82, 83] (by decide +kernel) (by decide +kernel)
set_option maxRecDepth 20000 in
theorem gX4_publish_X1_hasDay : GoodIn wsX4_publish (wsV RX4 129 RX1 yX1_hasDay wsX1_hasDay) := goodIn_app (goodIn_of _ (by decide +kernel)) ggX4_publish_X1_hasDay
set_option maxRecDepth 20000 in
theorem ggX4_publish_X2_findLevel : GoodIn wsX4_publish wsX2_findLevel := goodIn_r _ [25, 26, 27, 9, 28, 29, 8, 10, 30, 31, 32, 24, 33, 34, 35, 36, 37, 38, 39, 40, 41, 42, 43, 44, 45, 84, 85, 86, 87, 88, 89] (by decide +kernel) (by decide +kernel)
set_option maxRecDepth 20000 in
theorem gX4_publish_X2_findLevel : GoodIn wsX4_publish (wsV RX4 115 RX2 yX2_findLevel wsX2_findLevel) := goodIn_app (goodIn_of _ (by decide +kernel)) ggX4_publish_X2_findLevel
set_option maxRecDepth 20000 in
theorem ggX4_publish_X2_findCore : GoodIn wsX4_publish wsX2_findCore := goodIn_r _ [49, 30, 31, 32, 24, 33, 26, 27, 9, 28, 29, 8, 10, 34, 35, 36, 37, 38, 39, 40, 41, 42, 43, 44, 45, 84, 85, 86, 87, 88, 89] (by decide +kernel) (by decide +kernel)
set_option maxRecDepth 20000 in
theorem gX4_publish_X2_findCore : GoodIn wsX4_publish (wsV RX4 119 RX2 yX2_findCore wsX2_findCore) := goodIn_app (goodIn_of _ (by decide +kernel)) ggX4_publish_X2_findCore
set_option maxRecDepth 20000 in
theorem ggX4_publish_X2_findProblem : GoodIn wsX4_publish wsX2_findProblem := goodIn_r _ [53, 54, 55, 56, 24, 57, 58, 59, 60, 34, 35, 36, 37, 26, 27, 9, 28, 38, 39, 40, 41, 42, 84, 85, 86, 87, 88, 89] (by decide +kernel) (by decide +kernel)
set_option maxRecDepth 20000 in
theorem gX4_publish_X2_findProblem : GoodIn wsX4_publish (wsV RX4 122 RX2 yX2_findProblem wsX2_findProblem) := goodIn_app (goodIn_of _ (by decide +kernel)) ggX4_publish_X2_findProblem
set_option maxRecDepth 20000 in
theorem ggX4_publish_X1_write : GoodIn wsX4_publish wsX1_write := goodIn_r _ [64, 65, 66, 67, 14, 68, 81, 82, 83] (by decide +kernel) (by decide +kernel)
set_option maxRecDepth 20000 in
theorem gX4_publish_X1_write : GoodIn wsX4_publish (wsV RX4 137 RX1 yX1_write wsX1_write) := goodIn_app (goodIn_of _ (by decide +kernel)) ggX4_publish_X1_write
set_option maxRecDepth 20000 in
theorem ggX4_publish_X1_close : GoodIn wsX4_publish wsX1_close := goodIn_r _ [72, 20, 73, 81, 82, 83] (by decide +kernel) (by decide +kernel)
set_option maxRecDepth 20000 in
theorem gX4_publish_X1_close : GoodIn wsX4_publish (wsV RX4 146 RX1 yX1_close wsX1_close) := goodIn_app (goodIn_of _ (by decide +kernel)) ggX4_publish_X1_close
theorem dX4_publish_0 : decode cX4_publish 0 = .ok (.aload_n 0, 1) := by decide +kernel
theorem dX4_publish_1 : decode cX4_publish 1 = .ok (.getfield 23, 3) := by decide +kernel
theorem dX4_publish_4 : decode cX4_publish 4 = .ok (.aload_n 0, 1) := by decide +kernel
theorem dX4_publish_5 : decode cX4_publish 5 = .ok (.getfield 67, 3) := by decide +kernel
theorem dX4_publish_8 : decode cX4_publish 8 = .ok (.invokevirtual 129, 3) := by decide +kernel
theorem dX4_publish_11 : decode cX4_publish 11 = .ok (.ifCond .eq 13, 3) := by decide +kernel
theorem dX4_publish_14 : decode cX4_publish 14 = .ok (.new 45, 3) := by decide +kernel
theorem dX4_publish_17 : decode cX4_publish 17 = .ok (.dup, 1) := by decide +kernel
theorem dX4_publish_18 : decode cX4_publish 18 = .ok (.ldc 133, 2) := by decide +kernel
theorem dX4_publish_20 : decode cX4_publish 20 = .ok (.invokespecial 49, 3) := by decide +kernel
theorem dX4_publish_23 : decode cX4_publish 23 = .ok (.athrow, 1) := by decide +kernel
theorem dX4_publish_24 : decode cX4_publish 24 = .ok (.aload_n 0, 1) := by decide +kernel
theorem dX4_publish_25 : decode cX4_publish 25 = .ok (.getfield 41, 3) := by decide +kernel
theorem dX4_publish_28 : decode cX4_publish 28 = .ok (.ifCond .ne 13, 3) := by decide +kernel
theorem dX4_publish_31 : decode cX4_publish 31 = .ok (.new 45, 3) := by decide +kernel
theorem dX4_publish_34 : decode cX4_publish 34 = .ok (.dup, 1) := by decide +kernel
theorem dX4_publish_35 : decode cX4_publish 35 = .ok (.ldc 135, 2) := by decide +kernel
theorem dX4_publish_37 : decode cX4_publish 37 = .ok (.invokespecial 49, 3) := by decide +kernel
theorem dX4_publish_40 : decode cX4_publish 40 = .ok (.athrow, 1) := by decide +kernel
theorem dX4_publish_41 : decode cX4_publish 41 = .ok (.iconst 0, 1) := by decide +kernel
theorem dX4_publish_42 : decode cX4_publish 42 = .ok (.istore_n 1, 1) := by decide +kernel
theorem dX4_publish_43 : decode cX4_publish 43 = .ok (.iconst 0, 1) := by decide +kernel
theorem dX4_publish_44 : decode cX4_publish 44 = .ok (.istore_n 2, 1) := by decide +kernel
theorem dX4_publish_45 : decode cX4_publish 45 = .ok (.iload_n 2, 1) := by decide +kernel
theorem dX4_publish_46 : decode cX4_publish 46 = .ok (.aload_n 0, 1) := by decide +kernel
theorem dX4_publish_47 : decode cX4_publish 47 = .ok (.getfield 41, 3) := by decide +kernel
theorem dX4_publish_50 : decode cX4_publish 50 = .ok (.if_icmp .ge 63, 3) := by decide +kernel
theorem dX4_publish_53 : decode cX4_publish 53 = .ok (.aload_n 0, 1) := by decide +kernel
theorem dX4_publish_54 : decode cX4_publish 54 = .ok (.getfield 11, 3) := by decide +kernel
theorem dX4_publish_57 : decode cX4_publish 57 = .ok (.iload_n 2, 1) := by decide +kernel
theorem dX4_publish_58 : decode cX4_publish 58 = .ok (.aaload, 1) := by decide +kernel
theorem dX4_publish_59 : decode cX4_publish 59 = .ok (.invokevirtual 115, 3) := by decide +kernel
theorem dX4_publish_62 : decode cX4_publish 62 = .ok (.istore_n 3, 1) := by decide +kernel
theorem dX4_publish_63 : decode cX4_publish 63 = .ok (.aload_n 0, 1) := by decide +kernel
theorem dX4_publish_64 : decode cX4_publish 64 = .ok (.getfield 11, 3) := by decide +kernel
theorem dX4_publish_67 : decode cX4_publish 67 = .ok (.iload_n 2, 1) := by decide +kernel
theorem dX4_publish_68 : decode cX4_publish 68 = .ok (.aaload, 1) := by decide +kernel
theorem dX4_publish_69 : decode cX4_publish 69 = .ok (.iload_n 3, 1) := by decide +kernel
theorem dX4_publish_70 : decode cX4_publish 70 = .ok (.invokevirtual 119, 3) := by decide +kernel
theorem dX4_publish_73 : decode cX4_publish 73 = .ok (.istore 4, 2) := by decide +kernel
theorem dX4_publish_75 : decode cX4_publish 75 = .ok (.aload_n 0, 1) := by decide +kernel
theorem dX4_publish_76 : decode cX4_publish 76 = .ok (.getfield 23, 3) := by decide +kernel
theorem dX4_publish_79 : decode cX4_publish 79 = .ok (.aload_n 0, 1) := by decide +kernel
theorem dX4_publish_80 : decode cX4_publish 80 = .ok (.getfield 67, 3) := by decide +kernel
theorem dX4_publish_83 : decode cX4_publish 83 = .ok (.iload_n 2, 1) := by decide +kernel
theorem dX4_publish_84 : decode cX4_publish 84 = .ok (.iload_n 3, 1) := by decide +kernel
theorem dX4_publish_85 : decode cX4_publish 85 = .ok (.iload 4, 2) := by decide +kernel
theorem dX4_publish_87 : decode cX4_publish 87 = .ok (.aload_n 0, 1) := by decide +kernel
theorem dX4_publish_88 : decode cX4_publish 88 = .ok (.getfield 11, 3) := by decide +kernel
theorem dX4_publish_91 : decode cX4_publish 91 = .ok (.iload_n 2, 1) := by decide +kernel
theorem dX4_publish_92 : decode cX4_publish 92 = .ok (.aaload, 1) := by decide +kernel
theorem dX4_publish_93 : decode cX4_publish 93 = .ok (.iload 4, 2) := by decide +kernel
theorem dX4_publish_95 : decode cX4_publish 95 = .ok (.invokevirtual 122, 3) := by decide +kernel
theorem dX4_publish_98 : decode cX4_publish 98 = .ok (.invokevirtual 137, 3) := by decide +kernel
theorem dX4_publish_101 : decode cX4_publish 101 = .ok (.iload_n 1, 1) := by decide +kernel
theorem dX4_publish_102 : decode cX4_publish 102 = .ok (.iload_n 3, 1) := by decide +kernel
theorem dX4_publish_103 : decode cX4_publish 103 = .ok (.invokestatic 141, 3) := by decide +kernel
theorem dX4_publish_106 : decode cX4_publish 106 = .ok (.istore_n 1, 1) := by decide +kernel
theorem dX4_publish_107 : decode cX4_publish 107 = .ok (.iinc 2 1, 3) := by decide +kernel
theorem dX4_publish_110 : decode cX4_publish 110 = .ok (.goto (-65), 3) := by decide +kernel
theorem dX4_publish_113 : decode cX4_publish 113 = .ok (.aload_n 0, 1) := by decide +kernel
theorem dX4_publish_114 : decode cX4_publish 114 = .ok (.getfield 23, 3) := by decide +kernel
theorem dX4_publish_117 : decode cX4_publish 117 = .ok (.aload_n 0, 1) := by decide +kernel
theorem dX4_publish_118 : decode cX4_publish 118 = .ok (.getfield 67, 3) := by decide +kernel
theorem dX4_publish_121 : decode cX4_publish 121 = .ok (.aload_n 0, 1) := by decide +kernel
theorem dX4_publish_122 : decode cX4_publish 122 = .ok (.getfield 41, 3) := by decide +kernel
theorem dX4_publish_125 : decode cX4_publish 125 = .ok (.invokevirtual 146, 3) := by decide +kernel
theorem dX4_publish_128 : decode cX4_publish 128 = .ok (.iload_n 1, 1) := by decide +kernel
theorem dX4_publish_129 : decode cX4_publish 129 = .ok (.ireturn, 1) := by decide +kernel
set_option maxRecDepth 20000 in
theorem ggX4_bulletin_X1_tells : GoodIn wsX4_bulletin wsX1_tells := goodIn_r _ [8, 9, 25, 26, 27] (by decide +kernel) (by decide +kernel)
set_option maxRecDepth 20000 in
theorem gX4_bulletin_X1_tells : GoodIn wsX4_bulletin (wsV RX4 150 RX1 yX1_tells wsX1_tells) := goodIn_app (goodIn_of _ (by decide +kernel)) ggX4_bulletin_X1_tells
set_option maxRecDepth 20000 in
theorem ggX4_bulletin_X1_read : GoodIn wsX4_bulletin wsX1_read := goodIn_r _ [13, 14, 15, 16, 7, 17, 25, 26, 27] (by decide +kernel) (by decide +kernel)
set_option maxRecDepth 20000 in
theorem gX4_bulletin_X1_read : GoodIn wsX4_bulletin (wsV RX4 158 RX1 yX1_read wsX1_read) := goodIn_app (goodIn_of _ (by decide +kernel)) ggX4_bulletin_X1_read
theorem dX4_bulletin_0 : decode cX4_bulletin 0 = .ok (.aload_n 0, 1) := by decide +kernel
theorem dX4_bulletin_1 : decode cX4_bulletin 1 = .ok (.getfield 23, 3) := by decide +kernel
theorem dX4_bulletin_4 : decode cX4_bulletin 4 = .ok (.iload_n 1, 1) := by decide +kernel
theorem dX4_bulletin_5 : decode cX4_bulletin 5 = .ok (.iload_n 2, 1) := by decide +kernel
theorem dX4_bulletin_6 : decode cX4_bulletin 6 = .ok (.invokevirtual 150, 3) := by decide +kernel
theorem dX4_bulletin_9 : decode cX4_bulletin 9 = .ok (.ifCond .ne 13, 3) := by decide +kernel
theorem dX4_bulletin_12 : decode cX4_bulletin 12 = .ok (.new 101, 3) := by decide +kernel
theorem dX4_bulletin_15 : decode cX4_bulletin 15 = .ok (.dup, 1) := by decide +kernel
theorem dX4_bulletin_16 : decode cX4_bulletin 16 = .ok (.ldc 154, 2) := by decide +kernel
theorem dX4_bulletin_18 : decode cX4_bulletin 18 = .ok (.invokespecial 105, 3) := by decide +kernel
theorem dX4_bulletin_21 : decode cX4_bulletin 21 = .ok (.athrow, 1) := by decide +kernel
theorem dX4_bulletin_22 : decode cX4_bulletin 22 = .ok (.iload_n 3, 1) := by decide +kernel
theorem dX4_bulletin_23 : decode cX4_bulletin 23 = .ok (.ifCond .lt 8, 3) := by decide +kernel
theorem dX4_bulletin_26 : decode cX4_bulletin 26 = .ok (.iload_n 3, 1) := by decide +kernel
theorem dX4_bulletin_27 : decode cX4_bulletin 27 = .ok (.iconst 3, 1) := by decide +kernel
theorem dX4_bulletin_28 : decode cX4_bulletin 28 = .ok (.if_icmp .lt 13, 3) := by decide +kernel
theorem dX4_bulletin_31 : decode cX4_bulletin 31 = .ok (.new 101, 3) := by decide +kernel
theorem dX4_bulletin_34 : decode cX4_bulletin 34 = .ok (.dup, 1) := by decide +kernel
theorem dX4_bulletin_35 : decode cX4_bulletin 35 = .ok (.ldc 156, 2) := by decide +kernel
theorem dX4_bulletin_37 : decode cX4_bulletin 37 = .ok (.invokespecial 105, 3) := by decide +kernel
theorem dX4_bulletin_40 : decode cX4_bulletin 40 = .ok (.athrow, 1) := by decide +kernel
theorem dX4_bulletin_41 : decode cX4_bulletin 41 = .ok (.aload_n 0, 1) := by decide +kernel
theorem dX4_bulletin_42 : decode cX4_bulletin 42 = .ok (.getfield 23, 3) := by decide +kernel
theorem dX4_bulletin_45 : decode cX4_bulletin 45 = .ok (.iload_n 1, 1) := by decide +kernel
theorem dX4_bulletin_46 : decode cX4_bulletin 46 = .ok (.iload_n 2, 1) := by decide +kernel
theorem dX4_bulletin_47 : decode cX4_bulletin 47 = .ok (.iload_n 3, 1) := by decide +kernel
theorem dX4_bulletin_48 : decode cX4_bulletin 48 = .ok (.invokevirtual 158, 3) := by decide +kernel
theorem dX4_bulletin_51 : decode cX4_bulletin 51 = .ok (.ireturn, 1) := by decide +kernel
set_option maxRecDepth 20000 in
theorem ggX4_see_X4_checkRegion : GoodIn wsX4_see wsX4_checkRegion := goodIn_ca (goodIn_r _ [11, 12, 13, 14, 36, 37, 38, 39, 40, 41, 42] (by decide +kernel) (by decide +kernel)) (goodIn_sub (fun _ h => List.mem_cons_of_mem _ (List.mem_append_right _ h)) (by decide +kernel))
set_option maxRecDepth 20000 in
theorem gX4_see_X4_checkRegion : GoodIn wsX4_see (wsV RX4 52 RX4 yX4_checkRegion wsX4_checkRegion) := goodIn_app (goodIn_of _ (by decide +kernel)) ggX4_see_X4_checkRegion
set_option maxRecDepth 20000 in
theorem ggX4_see_X4_checkSector : GoodIn wsX4_see wsX4_checkSector := goodIn_ca (goodIn_r _ [17, 12, 13] (by decide +kernel) (by decide +kernel)) (goodIn_sub (fun _ h => List.mem_cons_of_mem _ (List.mem_append_right _ h)) (by decide +kernel))
set_option maxRecDepth 20000 in
theorem gX4_see_X4_checkSector : GoodIn wsX4_see (va_wsS RX4 78 yX4_checkSector wsX4_checkSector) := goodIn_app (goodIn_of _ (by decide +kernel)) ggX4_see_X4_checkSector
set_option maxRecDepth 20000 in
theorem ggX4_see_X0_isFull : GoodIn wsX4_see wsX0_isFull := goodIn_r _ [22, 23, 43, 44, 45, 46, 47] (by decide +kernel) (by decide +kernel)
set_option maxRecDepth 20000 in
theorem gX4_see_X0_isFull : GoodIn wsX4_see (wsV RX4 167 RX0 yX0_isFull wsX0_isFull) := goodIn_app (goodIn_of _ (by decide +kernel)) ggX4_see_X0_isFull
set_option maxRecDepth 20000 in
theorem ggX4_see_X0_note : GoodIn wsX4_see wsX0_note := goodIn_r _ [27, 28, 23, 29, 30, 31, 43, 44, 45, 46, 47] (by decide +kernel) (by decide +kernel)
set_option maxRecDepth 20000 in
theorem gX4_see_X0_note : GoodIn wsX4_see (wsV RX4 173 RX0 yX0_note wsX0_note) := goodIn_app (goodIn_of _ (by decide +kernel)) ggX4_see_X0_note
set_option maxRecDepth 20000 in
theorem ggX4_see_X0_activityOn : GoodIn wsX4_see wsX0_activityOn := goodIn_r _ [35, 31, 43, 44, 45, 46, 47] (by decide +kernel) (by decide +kernel)
set_option maxRecDepth 20000 in
theorem gX4_see_X0_activityOn : GoodIn wsX4_see (wsV RX4 176 RX0 yX0_activityOn wsX0_activityOn) := goodIn_app (goodIn_of _ (by decide +kernel)) ggX4_see_X0_activityOn
theorem dX4_see_0 : decode cX4_see 0 = .ok (.aload_n 0, 1) := by decide +kernel
theorem dX4_see_1 : decode cX4_see 1 = .ok (.iload_n 1, 1) := by decide +kernel
theorem dX4_see_2 : decode cX4_see 2 = .ok (.invokevirtual 52, 3) := by decide +kernel
theorem dX4_see_5 : decode cX4_see 5 = .ok (.iload_n 2, 1) := by decide +kernel
theorem dX4_see_6 : decode cX4_see 6 = .ok (.invokestatic 78, 3) := by decide +kernel
theorem dX4_see_9 : decode cX4_see 9 = .ok (.iload_n 3, 1) := by decide +kernel
theorem dX4_see_10 : decode cX4_see 10 = .ok (.iconst 1, 1) := by decide +kernel
theorem dX4_see_11 : decode cX4_see 11 = .ok (.if_icmp .lt 8, 3) := by decide +kernel
theorem dX4_see_14 : decode cX4_see 14 = .ok (.iload_n 3, 1) := by decide +kernel
theorem dX4_see_15 : decode cX4_see 15 = .ok (.iconst 5, 1) := by decide +kernel
theorem dX4_see_16 : decode cX4_see 16 = .ok (.if_icmp .le 13, 3) := by decide +kernel
theorem dX4_see_19 : decode cX4_see 19 = .ok (.new 92, 3) := by decide +kernel
theorem dX4_see_22 : decode cX4_see 22 = .ok (.dup, 1) := by decide +kernel
theorem dX4_see_23 : decode cX4_see 23 = .ok (.ldc 165, 2) := by decide +kernel
theorem dX4_see_25 : decode cX4_see 25 = .ok (.invokespecial 96, 3) := by decide +kernel
theorem dX4_see_28 : decode cX4_see 28 = .ok (.athrow, 1) := by decide +kernel
theorem dX4_see_29 : decode cX4_see 29 = .ok (.aload_n 0, 1) := by decide +kernel
theorem dX4_see_30 : decode cX4_see 30 = .ok (.getfield 30, 3) := by decide +kernel
theorem dX4_see_33 : decode cX4_see 33 = .ok (.invokevirtual 167, 3) := by decide +kernel
theorem dX4_see_36 : decode cX4_see 36 = .ok (.ifCond .eq 13, 3) := by decide +kernel
theorem dX4_see_39 : decode cX4_see 39 = .ok (.new 45, 3) := by decide +kernel
theorem dX4_see_42 : decode cX4_see 42 = .ok (.dup, 1) := by decide +kernel
theorem dX4_see_43 : decode cX4_see 43 = .ok (.ldc 171, 2) := by decide +kernel
theorem dX4_see_45 : decode cX4_see 45 = .ok (.invokespecial 49, 3) := by decide +kernel
theorem dX4_see_48 : decode cX4_see 48 = .ok (.athrow, 1) := by decide +kernel
theorem dX4_see_49 : decode cX4_see 49 = .ok (.aload_n 0, 1) := by decide +kernel
theorem dX4_see_50 : decode cX4_see 50 = .ok (.getfield 30, 3) := by decide +kernel
theorem dX4_see_53 : decode cX4_see 53 = .ok (.aload_n 0, 1) := by decide +kernel
theorem dX4_see_54 : decode cX4_see 54 = .ok (.getfield 67, 3) := by decide +kernel
theorem dX4_see_57 : decode cX4_see 57 = .ok (.iload_n 1, 1) := by decide +kernel
theorem dX4_see_58 : decode cX4_see 58 = .ok (.iload_n 2, 1) := by decide +kernel
theorem dX4_see_59 : decode cX4_see 59 = .ok (.iload_n 3, 1) := by decide +kernel
theorem dX4_see_60 : decode cX4_see 60 = .ok (.invokevirtual 173, 3) := by decide +kernel
theorem dX4_see_63 : decode cX4_see 63 = .ok (.aload_n 0, 1) := by decide +kernel
theorem dX4_see_64 : decode cX4_see 64 = .ok (.getfield 30, 3) := by decide +kernel
theorem dX4_see_67 : decode cX4_see 67 = .ok (.aload_n 0, 1) := by decide +kernel
theorem dX4_see_68 : decode cX4_see 68 = .ok (.getfield 67, 3) := by decide +kernel
theorem dX4_see_71 : decode cX4_see 71 = .ok (.iload_n 1, 1) := by decide +kernel
theorem dX4_see_72 : decode cX4_see 72 = .ok (.invokevirtual 176, 3) := by decide +kernel
theorem dX4_see_75 : decode cX4_see 75 = .ok (.ireturn, 1) := by decide +kernel
set_option maxRecDepth 20000 in
theorem ggX4_borneOut_X1_tells : GoodIn wsX4_borneOut wsX1_tells := goodIn_r _ [10, 11, 46, 47, 48] (by decide +kernel) (by decide +kernel)
set_option maxRecDepth 20000 in
theorem gX4_borneOut_X1_tells : GoodIn wsX4_borneOut (wsV RX4 150 RX1 yX1_tells wsX1_tells) := goodIn_app (goodIn_of _ (by decide +kernel)) ggX4_borneOut_X1_tells
set_option maxRecDepth 20000 in
theorem ggX4_borneOut_X4_verdict : GoodIn wsX4_borneOut wsX4_verdict := goodIn_r _ [16, 5, 17, 18, 19, 20, 9, 21, 22, 23, 24, 25, 26, 27, 28, 29, 30, 31, 32, 33, 15, 34, 35, 36, 37, 38, 39, 40, 41, 42, 43, 44, 45, 46, 47, 48, 49, 50, 51, 52, 53] (by decide +kernel) (by decide +kernel)
set_option maxRecDepth 20000 in
theorem gX4_borneOut_X4_verdict : GoodIn wsX4_borneOut (wsV RX4 183 RX4 yX4_verdict wsX4_verdict) := goodIn_app (goodIn_of _ (by decide +kernel)) ggX4_borneOut_X4_verdict
theorem dX4_borneOut_0 : decode cX4_borneOut 0 = .ok (.iload_n 1, 1) := by decide +kernel
theorem dX4_borneOut_1 : decode cX4_borneOut 1 = .ok (.iconst (-1), 1) := by decide +kernel
theorem dX4_borneOut_2 : decode cX4_borneOut 2 = .ok (.if_icmp .lt 8, 3) := by decide +kernel
theorem dX4_borneOut_5 : decode cX4_borneOut 5 = .ok (.iload_n 1, 1) := by decide +kernel
theorem dX4_borneOut_6 : decode cX4_borneOut 6 = .ok (.iconst 1, 1) := by decide +kernel
theorem dX4_borneOut_7 : decode cX4_borneOut 7 = .ok (.if_icmp .le 13, 3) := by decide +kernel
theorem dX4_borneOut_10 : decode cX4_borneOut 10 = .ok (.new 92, 3) := by decide +kernel
theorem dX4_borneOut_13 : decode cX4_borneOut 13 = .ok (.dup, 1) := by decide +kernel
theorem dX4_borneOut_14 : decode cX4_borneOut 14 = .ok (.ldc 181, 2) := by decide +kernel
theorem dX4_borneOut_16 : decode cX4_borneOut 16 = .ok (.invokespecial 96, 3) := by decide +kernel
theorem dX4_borneOut_19 : decode cX4_borneOut 19 = .ok (.athrow, 1) := by decide +kernel
theorem dX4_borneOut_20 : decode cX4_borneOut 20 = .ok (.iconst 0, 1) := by decide +kernel
theorem dX4_borneOut_21 : decode cX4_borneOut 21 = .ok (.istore_n 2, 1) := by decide +kernel
theorem dX4_borneOut_22 : decode cX4_borneOut 22 = .ok (.iconst 0, 1) := by decide +kernel
theorem dX4_borneOut_23 : decode cX4_borneOut 23 = .ok (.istore_n 3, 1) := by decide +kernel
theorem dX4_borneOut_24 : decode cX4_borneOut 24 = .ok (.iload_n 3, 1) := by decide +kernel
theorem dX4_borneOut_25 : decode cX4_borneOut 25 = .ok (.aload_n 0, 1) := by decide +kernel
theorem dX4_borneOut_26 : decode cX4_borneOut 26 = .ok (.getfield 67, 3) := by decide +kernel
theorem dX4_borneOut_29 : decode cX4_borneOut 29 = .ok (.if_icmp .gt 54, 3) := by decide +kernel
theorem dX4_borneOut_32 : decode cX4_borneOut 32 = .ok (.iconst 0, 1) := by decide +kernel
theorem dX4_borneOut_33 : decode cX4_borneOut 33 = .ok (.istore 4, 2) := by decide +kernel
theorem dX4_borneOut_35 : decode cX4_borneOut 35 = .ok (.iload 4, 2) := by decide +kernel
theorem dX4_borneOut_37 : decode cX4_borneOut 37 = .ok (.aload_n 0, 1) := by decide +kernel
theorem dX4_borneOut_38 : decode cX4_borneOut 38 = .ok (.getfield 41, 3) := by decide +kernel
theorem dX4_borneOut_41 : decode cX4_borneOut 41 = .ok (.if_icmp .ge 36, 3) := by decide +kernel
theorem dX4_borneOut_44 : decode cX4_borneOut 44 = .ok (.aload_n 0, 1) := by decide +kernel
theorem dX4_borneOut_45 : decode cX4_borneOut 45 = .ok (.getfield 23, 3) := by decide +kernel
theorem dX4_borneOut_48 : decode cX4_borneOut 48 = .ok (.iload_n 3, 1) := by decide +kernel
theorem dX4_borneOut_49 : decode cX4_borneOut 49 = .ok (.iload 4, 2) := by decide +kernel
theorem dX4_borneOut_51 : decode cX4_borneOut 51 = .ok (.invokevirtual 150, 3) := by decide +kernel
theorem dX4_borneOut_54 : decode cX4_borneOut 54 = .ok (.ifCond .eq 17, 3) := by decide +kernel
theorem dX4_borneOut_57 : decode cX4_borneOut 57 = .ok (.aload_n 0, 1) := by decide +kernel
theorem dX4_borneOut_58 : decode cX4_borneOut 58 = .ok (.iload_n 3, 1) := by decide +kernel
theorem dX4_borneOut_59 : decode cX4_borneOut 59 = .ok (.iload 4, 2) := by decide +kernel
theorem dX4_borneOut_61 : decode cX4_borneOut 61 = .ok (.invokevirtual 183, 3) := by decide +kernel
theorem dX4_borneOut_64 : decode cX4_borneOut 64 = .ok (.iload_n 1, 1) := by decide +kernel
theorem dX4_borneOut_65 : decode cX4_borneOut 65 = .ok (.if_icmp .ne 6, 3) := by decide +kernel
theorem dX4_borneOut_68 : decode cX4_borneOut 68 = .ok (.iinc 2 1, 3) := by decide +kernel
theorem dX4_borneOut_71 : decode cX4_borneOut 71 = .ok (.iinc 4 1, 3) := by decide +kernel
theorem dX4_borneOut_74 : decode cX4_borneOut 74 = .ok (.goto (-39), 3) := by decide +kernel
theorem dX4_borneOut_77 : decode cX4_borneOut 77 = .ok (.iinc 3 1, 3) := by decide +kernel
theorem dX4_borneOut_80 : decode cX4_borneOut 80 = .ok (.goto (-56), 3) := by decide +kernel
theorem dX4_borneOut_83 : decode cX4_borneOut 83 = .ok (.iload_n 2, 1) := by decide +kernel
theorem dX4_borneOut_84 : decode cX4_borneOut 84 = .ok (.ireturn, 1) := by decide +kernel
set_option maxRecDepth 20000 in
theorem ggX4_inCore_X4_checkRegion : GoodIn wsX4_inCore wsX4_checkRegion := goodIn_ca (goodIn_r _ [7, 8, 9, 10, 28, 29, 30, 31, 32, 33, 34] (by decide +kernel) (by decide +kernel)) (goodIn_sub (fun _ h => List.mem_cons_of_mem _ (List.mem_append_right _ h)) (by decide +kernel))
set_option maxRecDepth 20000 in
theorem gX4_inCore_X4_checkRegion : GoodIn wsX4_inCore (wsV RX4 52 RX4 yX4_checkRegion wsX4_checkRegion) := goodIn_app (goodIn_of _ (by decide +kernel)) ggX4_inCore_X4_checkRegion
set_option maxRecDepth 20000 in
theorem ggX4_inCore_X1_tells : GoodIn wsX4_inCore wsX1_tells := goodIn_r _ [15, 16, 40, 41, 42] (by decide +kernel) (by decide +kernel)
set_option maxRecDepth 20000 in
theorem gX4_inCore_X1_tells : GoodIn wsX4_inCore (wsV RX4 150 RX1 yX1_tells wsX1_tells) := goodIn_app (goodIn_of _ (by decide +kernel)) ggX4_inCore_X1_tells
set_option maxRecDepth 20000 in
theorem ggX4_inCore_X1_read : GoodIn wsX4_inCore wsX1_read := goodIn_r _ [20, 21, 22, 23, 14, 24, 40, 41, 42] (by decide +kernel) (by decide +kernel)
set_option maxRecDepth 20000 in
theorem gX4_inCore_X1_read : GoodIn wsX4_inCore (wsV RX4 158 RX1 yX1_read wsX1_read) := goodIn_app (goodIn_of _ (by decide +kernel)) ggX4_inCore_X1_read
set_option maxRecDepth 20000 in
theorem ggX4_inCore_X4_bit : GoodIn wsX4_inCore wsX4_bit := goodIn_r _ [27] (by decide +kernel) (by decide +kernel)
set_option maxRecDepth 20000 in
theorem gX4_inCore_X4_bit : GoodIn wsX4_inCore (va_wsS RX4 197 yX4_bit wsX4_bit) := goodIn_app (goodIn_of _ (by decide +kernel)) ggX4_inCore_X4_bit
theorem dX4_inCore_0 : decode cX4_inCore 0 = .ok (.aload_n 0, 1) := by decide +kernel
theorem dX4_inCore_1 : decode cX4_inCore 1 = .ok (.iload_n 1, 1) := by decide +kernel
theorem dX4_inCore_2 : decode cX4_inCore 2 = .ok (.invokevirtual 52, 3) := by decide +kernel
theorem dX4_inCore_5 : decode cX4_inCore 5 = .ok (.iconst 0, 1) := by decide +kernel
theorem dX4_inCore_6 : decode cX4_inCore 6 = .ok (.istore_n 2, 1) := by decide +kernel
theorem dX4_inCore_7 : decode cX4_inCore 7 = .ok (.iconst 0, 1) := by decide +kernel
theorem dX4_inCore_8 : decode cX4_inCore 8 = .ok (.istore_n 3, 1) := by decide +kernel
theorem dX4_inCore_9 : decode cX4_inCore 9 = .ok (.iconst 0, 1) := by decide +kernel
theorem dX4_inCore_10 : decode cX4_inCore 10 = .ok (.istore 4, 2) := by decide +kernel
theorem dX4_inCore_12 : decode cX4_inCore 12 = .ok (.iload 4, 2) := by decide +kernel
theorem dX4_inCore_14 : decode cX4_inCore 14 = .ok (.aload_n 0, 1) := by decide +kernel
theorem dX4_inCore_15 : decode cX4_inCore 15 = .ok (.getfield 30, 3) := by decide +kernel
theorem dX4_inCore_18 : decode cX4_inCore 18 = .ok (.getfield 186, 3) := by decide +kernel
theorem dX4_inCore_21 : decode cX4_inCore 21 = .ok (.if_icmp .ge 78, 3) := by decide +kernel
theorem dX4_inCore_24 : decode cX4_inCore 24 = .ok (.aload_n 0, 1) := by decide +kernel
theorem dX4_inCore_25 : decode cX4_inCore 25 = .ok (.getfield 30, 3) := by decide +kernel
theorem dX4_inCore_28 : decode cX4_inCore 28 = .ok (.getfield 187, 3) := by decide +kernel
theorem dX4_inCore_31 : decode cX4_inCore 31 = .ok (.iload 4, 2) := by decide +kernel
theorem dX4_inCore_33 : decode cX4_inCore 33 = .ok (.iaload, 1) := by decide +kernel
theorem dX4_inCore_34 : decode cX4_inCore 34 = .ok (.istore 5, 2) := by decide +kernel
theorem dX4_inCore_36 : decode cX4_inCore 36 = .ok (.aload_n 0, 1) := by decide +kernel
theorem dX4_inCore_37 : decode cX4_inCore 37 = .ok (.getfield 30, 3) := by decide +kernel
theorem dX4_inCore_40 : decode cX4_inCore 40 = .ok (.getfield 191, 3) := by decide +kernel
theorem dX4_inCore_43 : decode cX4_inCore 43 = .ok (.iload 4, 2) := by decide +kernel
theorem dX4_inCore_45 : decode cX4_inCore 45 = .ok (.iaload, 1) := by decide +kernel
theorem dX4_inCore_46 : decode cX4_inCore 46 = .ok (.iload_n 1, 1) := by decide +kernel
theorem dX4_inCore_47 : decode cX4_inCore 47 = .ok (.if_icmp .ne 46, 3) := by decide +kernel
theorem dX4_inCore_50 : decode cX4_inCore 50 = .ok (.aload_n 0, 1) := by decide +kernel
theorem dX4_inCore_51 : decode cX4_inCore 51 = .ok (.getfield 23, 3) := by decide +kernel
theorem dX4_inCore_54 : decode cX4_inCore 54 = .ok (.iload 5, 2) := by decide +kernel
theorem dX4_inCore_56 : decode cX4_inCore 56 = .ok (.iload_n 1, 1) := by decide +kernel
theorem dX4_inCore_57 : decode cX4_inCore 57 = .ok (.invokevirtual 150, 3) := by decide +kernel
theorem dX4_inCore_60 : decode cX4_inCore 60 = .ok (.ifCond .eq 33, 3) := by decide +kernel
theorem dX4_inCore_63 : decode cX4_inCore 63 = .ok (.iinc 2 1, 3) := by decide +kernel
theorem dX4_inCore_66 : decode cX4_inCore 66 = .ok (.iload_n 3, 1) := by decide +kernel
theorem dX4_inCore_67 : decode cX4_inCore 67 = .ok (.aload_n 0, 1) := by decide +kernel
theorem dX4_inCore_68 : decode cX4_inCore 68 = .ok (.getfield 23, 3) := by decide +kernel
theorem dX4_inCore_71 : decode cX4_inCore 71 = .ok (.iload 5, 2) := by decide +kernel
theorem dX4_inCore_73 : decode cX4_inCore 73 = .ok (.iload_n 1, 1) := by decide +kernel
theorem dX4_inCore_74 : decode cX4_inCore 74 = .ok (.iconst 1, 1) := by decide +kernel
theorem dX4_inCore_75 : decode cX4_inCore 75 = .ok (.invokevirtual 158, 3) := by decide +kernel
theorem dX4_inCore_78 : decode cX4_inCore 78 = .ok (.aload_n 0, 1) := by decide +kernel
theorem dX4_inCore_79 : decode cX4_inCore 79 = .ok (.getfield 30, 3) := by decide +kernel
theorem dX4_inCore_82 : decode cX4_inCore 82 = .ok (.getfield 194, 3) := by decide +kernel
theorem dX4_inCore_85 : decode cX4_inCore 85 = .ok (.iload 4, 2) := by decide +kernel
theorem dX4_inCore_87 : decode cX4_inCore 87 = .ok (.iaload, 1) := by decide +kernel
theorem dX4_inCore_88 : decode cX4_inCore 88 = .ok (.invokestatic 197, 3) := by decide +kernel
theorem dX4_inCore_91 : decode cX4_inCore 91 = .ok (.iadd, 1) := by decide +kernel
theorem dX4_inCore_92 : decode cX4_inCore 92 = .ok (.istore_n 3, 1) := by decide +kernel
theorem dX4_inCore_93 : decode cX4_inCore 93 = .ok (.iinc 4 1, 3) := by decide +kernel
theorem dX4_inCore_96 : decode cX4_inCore 96 = .ok (.goto (-84), 3) := by decide +kernel
theorem dX4_inCore_99 : decode cX4_inCore 99 = .ok (.iload_n 2, 1) := by decide +kernel
theorem dX4_inCore_100 : decode cX4_inCore 100 = .ok (.ifCond .ne 7, 3) := by decide +kernel
theorem dX4_inCore_103 : decode cX4_inCore 103 = .ok (.dconst 1, 1) := by decide +kernel
theorem dX4_inCore_104 : decode cX4_inCore 104 = .ok (.goto 8, 3) := by decide +kernel
theorem dX4_inCore_107 : decode cX4_inCore 107 = .ok (.iload_n 3, 1) := by decide +kernel
theorem dX4_inCore_108 : decode cX4_inCore 108 = .ok (.i2d, 1) := by decide +kernel
theorem dX4_inCore_109 : decode cX4_inCore 109 = .ok (.iload_n 2, 1) := by decide +kernel
theorem dX4_inCore_110 : decode cX4_inCore 110 = .ok (.i2d, 1) := by decide +kernel
theorem dX4_inCore_111 : decode cX4_inCore 111 = .ok (.ddiv, 1) := by decide +kernel
theorem dX4_inCore_112 : decode cX4_inCore 112 = .ok (.dreturn, 1) := by decide +kernel
theorem dX4_checkRegion_0 : decode cX4_checkRegion 0 = .ok (.iload_n 1, 1) := by decide +kernel
theorem dX4_checkRegion_1 : decode cX4_checkRegion 1 = .ok (.ifCond .lt 11, 3) := by decide +kernel
theorem dX4_checkRegion_4 : decode cX4_checkRegion 4 = .ok (.iload_n 1, 1) := by decide +kernel
theorem dX4_checkRegion_5 : decode cX4_checkRegion 5 = .ok (.aload_n 0, 1) := by decide +kernel
theorem dX4_checkRegion_6 : decode cX4_checkRegion 6 = .ok (.getfield 41, 3) := by decide +kernel
theorem dX4_checkRegion_9 : decode cX4_checkRegion 9 = .ok (.if_icmp .lt 13, 3) := by decide +kernel
theorem dX4_checkRegion_12 : decode cX4_checkRegion 12 = .ok (.new 101, 3) := by decide +kernel
theorem dX4_checkRegion_15 : decode cX4_checkRegion 15 = .ok (.dup, 1) := by decide +kernel
theorem dX4_checkRegion_16 : decode cX4_checkRegion 16 = .ok (.ldc 241, 2) := by decide +kernel
theorem dX4_checkRegion_18 : decode cX4_checkRegion 18 = .ok (.invokespecial 105, 3) := by decide +kernel
theorem dX4_checkRegion_21 : decode cX4_checkRegion 21 = .ok (.athrow, 1) := by decide +kernel
theorem dX4_checkRegion_22 : decode cX4_checkRegion 22 = .ok (.return_, 1) := by decide +kernel
theorem dX4_checkSector_0 : decode cX4_checkSector 0 = .ok (.iload_n 0, 1) := by decide +kernel
theorem dX4_checkSector_1 : decode cX4_checkSector 1 = .ok (.ifCond .lt 9, 3) := by decide +kernel
theorem dX4_checkSector_4 : decode cX4_checkSector 4 = .ok (.iload_n 0, 1) := by decide +kernel
theorem dX4_checkSector_5 : decode cX4_checkSector 5 = .ok (.bipush 12, 2) := by decide +kernel
theorem dX4_checkSector_7 : decode cX4_checkSector 7 = .ok (.if_icmp .lt 13, 3) := by decide +kernel
theorem dX4_checkSector_10 : decode cX4_checkSector 10 = .ok (.new 101, 3) := by decide +kernel
theorem dX4_checkSector_13 : decode cX4_checkSector 13 = .ok (.dup, 1) := by decide +kernel
theorem dX4_checkSector_14 : decode cX4_checkSector 14 = .ok (.ldc 243, 2) := by decide +kernel
theorem dX4_checkSector_16 : decode cX4_checkSector 16 = .ok (.invokespecial 105, 3) := by decide +kernel
theorem dX4_checkSector_19 : decode cX4_checkSector 19 = .ok (.athrow, 1) := by decide +kernel
theorem dX4_checkSector_20 : decode cX4_checkSector 20 = .ok (.return_, 1) := by decide +kernel
theorem dX4_checkNumber_0 : decode cX4_checkNumber 0 = .ok (.iload_n 0, 1) := by decide +kernel
theorem dX4_checkNumber_1 : decode cX4_checkNumber 1 = .ok (.ifCond .lt 8, 3) := by decide +kernel
theorem dX4_checkNumber_4 : decode cX4_checkNumber 4 = .ok (.iload_n 0, 1) := by decide +kernel
theorem dX4_checkNumber_5 : decode cX4_checkNumber 5 = .ok (.iconst 5, 1) := by decide +kernel
theorem dX4_checkNumber_6 : decode cX4_checkNumber 6 = .ok (.if_icmp .lt 13, 3) := by decide +kernel
theorem dX4_checkNumber_9 : decode cX4_checkNumber 9 = .ok (.new 101, 3) := by decide +kernel
theorem dX4_checkNumber_12 : decode cX4_checkNumber 12 = .ok (.dup, 1) := by decide +kernel
theorem dX4_checkNumber_13 : decode cX4_checkNumber 13 = .ok (.ldc 245, 2) := by decide +kernel
theorem dX4_checkNumber_15 : decode cX4_checkNumber 15 = .ok (.invokespecial 105, 3) := by decide +kernel
theorem dX4_checkNumber_18 : decode cX4_checkNumber 18 = .ok (.athrow, 1) := by decide +kernel
theorem dX4_checkNumber_19 : decode cX4_checkNumber 19 = .ok (.return_, 1) := by decide +kernel
theorem dX4_checkWeather_0 : decode cX4_checkWeather 0 = .ok (.iload_n 0, 1) := by decide +kernel
theorem dX4_checkWeather_1 : decode cX4_checkWeather 1 = .ok (.ifCond .lt 10, 3) := by decide +kernel
theorem dX4_checkWeather_4 : decode cX4_checkWeather 4 = .ok (.iload_n 0, 1) := by decide +kernel
theorem dX4_checkWeather_5 : decode cX4_checkWeather 5 = .ok (.sipush 150, 3) := by decide +kernel
theorem dX4_checkWeather_8 : decode cX4_checkWeather 8 = .ok (.if_icmp .le 13, 3) := by decide +kernel
theorem dX4_checkWeather_11 : decode cX4_checkWeather 11 = .ok (.new 92, 3) := by decide +kernel
theorem dX4_checkWeather_14 : decode cX4_checkWeather 14 = .ok (.dup, 1) := by decide +kernel
theorem dX4_checkWeather_15 : decode cX4_checkWeather 15 = .ok (.ldc 247, 2) := by decide +kernel
theorem dX4_checkWeather_17 : decode cX4_checkWeather 17 = .ok (.invokespecial 96, 3) := by decide +kernel
theorem dX4_checkWeather_20 : decode cX4_checkWeather 20 = .ok (.athrow, 1) := by decide +kernel
theorem dX4_checkWeather_21 : decode cX4_checkWeather 21 = .ok (.iload_n 1, 1) := by decide +kernel
theorem dX4_checkWeather_22 : decode cX4_checkWeather 22 = .ok (.ifCond .lt 9, 3) := by decide +kernel
theorem dX4_checkWeather_25 : decode cX4_checkWeather 25 = .ok (.iload_n 1, 1) := by decide +kernel
theorem dX4_checkWeather_26 : decode cX4_checkWeather 26 = .ok (.bipush 120, 2) := by decide +kernel
theorem dX4_checkWeather_28 : decode cX4_checkWeather 28 = .ok (.if_icmp .le 13, 3) := by decide +kernel
theorem dX4_checkWeather_31 : decode cX4_checkWeather 31 = .ok (.new 92, 3) := by decide +kernel
theorem dX4_checkWeather_34 : decode cX4_checkWeather 34 = .ok (.dup, 1) := by decide +kernel
theorem dX4_checkWeather_35 : decode cX4_checkWeather 35 = .ok (.ldc 249, 2) := by decide +kernel
theorem dX4_checkWeather_37 : decode cX4_checkWeather 37 = .ok (.invokespecial 96, 3) := by decide +kernel
theorem dX4_checkWeather_40 : decode cX4_checkWeather 40 = .ok (.athrow, 1) := by decide +kernel
theorem dX4_checkWeather_41 : decode cX4_checkWeather 41 = .ok (.iload_n 2, 1) := by decide +kernel
theorem dX4_checkWeather_42 : decode cX4_checkWeather 42 = .ok (.ifCond .lt 8, 3) := by decide +kernel
theorem dX4_checkWeather_45 : decode cX4_checkWeather 45 = .ok (.iload_n 2, 1) := by decide +kernel
theorem dX4_checkWeather_46 : decode cX4_checkWeather 46 = .ok (.iconst 4, 1) := by decide +kernel
theorem dX4_checkWeather_47 : decode cX4_checkWeather 47 = .ok (.if_icmp .lt 13, 3) := by decide +kernel
theorem dX4_checkWeather_50 : decode cX4_checkWeather 50 = .ok (.new 92, 3) := by decide +kernel
theorem dX4_checkWeather_53 : decode cX4_checkWeather 53 = .ok (.dup, 1) := by decide +kernel
theorem dX4_checkWeather_54 : decode cX4_checkWeather 54 = .ok (.ldc 251, 2) := by decide +kernel
theorem dX4_checkWeather_56 : decode cX4_checkWeather 56 = .ok (.invokespecial 96, 3) := by decide +kernel
theorem dX4_checkWeather_59 : decode cX4_checkWeather 59 = .ok (.athrow, 1) := by decide +kernel
theorem dX4_checkWeather_60 : decode cX4_checkWeather 60 = .ok (.iload_n 3, 1) := by decide +kernel
theorem dX4_checkWeather_61 : decode cX4_checkWeather 61 = .ok (.bipush (-30), 2) := by decide +kernel
theorem dX4_checkWeather_63 : decode cX4_checkWeather 63 = .ok (.if_icmp .lt 9, 3) := by decide +kernel
theorem dX4_checkWeather_66 : decode cX4_checkWeather 66 = .ok (.iload_n 3, 1) := by decide +kernel
theorem dX4_checkWeather_67 : decode cX4_checkWeather 67 = .ok (.bipush 15, 2) := by decide +kernel
end
section
theorem dX4_checkWeather_69 : decode cX4_checkWeather 69 = .ok (.if_icmp .le 13, 3) := by decide +kernel
theorem dX4_checkWeather_72 : decode cX4_checkWeather 72 = .ok (.new 92, 3) := by decide +kernel
theorem dX4_checkWeather_75 : decode cX4_checkWeather 75 = .ok (.dup, 1) := by decide +kernel
theorem dX4_checkWeather_76 : decode cX4_checkWeather 76 = .ok (.ldc 253, 2) := by decide +kernel
theorem dX4_checkWeather_78 : decode cX4_checkWeather 78 = .ok (.invokespecial 96, 3) := by decide +kernel
theorem dX4_checkWeather_81 : decode cX4_checkWeather 81 = .ok (.athrow, 1) := by decide +kernel
theorem dX4_checkWeather_82 : decode cX4_checkWeather 82 = .ok (.return_, 1) := by decide +kernel
theorem dX4_bit_0 : decode cX4_bit 0 = .ok (.iload_n 0, 1) := by decide +kernel
theorem dX4_bit_1 : decode cX4_bit 1 = .ok (.iload_n 1, 1) := by decide +kernel
theorem dX4_bit_2 : decode cX4_bit 2 = .ok (.ishr, 1) := by decide +kernel
theorem dX4_bit_3 : decode cX4_bit 3 = .ok (.iconst 1, 1) := by decide +kernel
theorem dX4_bit_4 : decode cX4_bit 4 = .ok (.iand, 1) := by decide +kernel
theorem dX4_bit_5 : decode cX4_bit 5 = .ok (.ireturn, 1) := by decide +kernel
set_option maxRecDepth 20000 in
theorem ggX4_verdict_X1_read : GoodIn wsX4_verdict wsX1_read := goodIn_r _ [7, 8, 9, 10, 6, 11, 33, 34, 35] (by decide +kernel) (by decide +kernel)
set_option maxRecDepth 20000 in
theorem gX4_verdict_X1_read : GoodIn wsX4_verdict (wsV RX4 158 RX1 yX1_read wsX1_read) := goodIn_app (goodIn_of _ (by decide +kernel)) ggX4_verdict_X1_read
set_option maxRecDepth 20000 in
theorem ggX4_verdict_X0_activityOn : GoodIn wsX4_verdict wsX0_activityOn := goodIn_r _ [16, 17, 36, 37, 38, 39, 40] (by decide +kernel) (by decide +kernel)
set_option maxRecDepth 20000 in
theorem gX4_verdict_X0_activityOn : GoodIn wsX4_verdict (wsV RX4 176 RX0 yX0_activityOn wsX0_activityOn) := goodIn_app (goodIn_of _ (by decide +kernel)) ggX4_verdict_X0_activityOn
set_option maxRecDepth 20000 in
theorem ggX4_verdict_X4_leastActivity : GoodIn wsX4_verdict wsX4_leastActivity := goodIn_r _ [21] (by decide +kernel) (by decide +kernel)
set_option maxRecDepth 20000 in
theorem gX4_verdict_X4_leastActivity : GoodIn wsX4_verdict (va_wsS RX4 255 yX4_leastActivity wsX4_leastActivity) := goodIn_app (goodIn_of _ (by decide +kernel)) ggX4_verdict_X4_leastActivity
set_option maxRecDepth 20000 in
theorem ggX4_verdict_X4_greatestActivity : GoodIn wsX4_verdict wsX4_greatestActivity := goodIn_r _ [24, 25] (by decide +kernel) (by decide +kernel)
set_option maxRecDepth 20000 in
theorem gX4_verdict_X4_greatestActivity : GoodIn wsX4_verdict (va_wsS RX4 258 yX4_greatestActivity wsX4_greatestActivity) := goodIn_app (goodIn_of _ (by decide +kernel)) ggX4_verdict_X4_greatestActivity
theorem dX4_verdict_0 : decode cX4_verdict 0 = .ok (.aload_n 0, 1) := by decide +kernel
theorem dX4_verdict_1 : decode cX4_verdict 1 = .ok (.getfield 23, 3) := by decide +kernel
theorem dX4_verdict_4 : decode cX4_verdict 4 = .ok (.iload_n 1, 1) := by decide +kernel
theorem dX4_verdict_5 : decode cX4_verdict 5 = .ok (.iload_n 2, 1) := by decide +kernel
theorem dX4_verdict_6 : decode cX4_verdict 6 = .ok (.iconst 0, 1) := by decide +kernel
theorem dX4_verdict_7 : decode cX4_verdict 7 = .ok (.invokevirtual 158, 3) := by decide +kernel
theorem dX4_verdict_10 : decode cX4_verdict 10 = .ok (.istore_n 3, 1) := by decide +kernel
theorem dX4_verdict_11 : decode cX4_verdict 11 = .ok (.aload_n 0, 1) := by decide +kernel
theorem dX4_verdict_12 : decode cX4_verdict 12 = .ok (.getfield 30, 3) := by decide +kernel
theorem dX4_verdict_15 : decode cX4_verdict 15 = .ok (.iload_n 1, 1) := by decide +kernel
theorem dX4_verdict_16 : decode cX4_verdict 16 = .ok (.iload_n 2, 1) := by decide +kernel
theorem dX4_verdict_17 : decode cX4_verdict 17 = .ok (.invokevirtual 176, 3) := by decide +kernel
theorem dX4_verdict_20 : decode cX4_verdict 20 = .ok (.istore 4, 2) := by decide +kernel
theorem dX4_verdict_22 : decode cX4_verdict 22 = .ok (.iload 4, 2) := by decide +kernel
theorem dX4_verdict_24 : decode cX4_verdict 24 = .ok (.iload_n 3, 1) := by decide +kernel
theorem dX4_verdict_25 : decode cX4_verdict 25 = .ok (.invokestatic 255, 3) := by decide +kernel
theorem dX4_verdict_28 : decode cX4_verdict 28 = .ok (.if_icmp .ge 5, 3) := by decide +kernel
theorem dX4_verdict_31 : decode cX4_verdict 31 = .ok (.iconst (-1), 1) := by decide +kernel
theorem dX4_verdict_32 : decode cX4_verdict 32 = .ok (.ireturn, 1) := by decide +kernel
theorem dX4_verdict_33 : decode cX4_verdict 33 = .ok (.iload 4, 2) := by decide +kernel
theorem dX4_verdict_35 : decode cX4_verdict 35 = .ok (.iload_n 3, 1) := by decide +kernel
theorem dX4_verdict_36 : decode cX4_verdict 36 = .ok (.invokestatic 258, 3) := by decide +kernel
theorem dX4_verdict_39 : decode cX4_verdict 39 = .ok (.if_icmp .le 7, 3) := by decide +kernel
theorem dX4_verdict_42 : decode cX4_verdict 42 = .ok (.iconst 1, 1) := by decide +kernel
theorem dX4_verdict_43 : decode cX4_verdict 43 = .ok (.goto 4, 3) := by decide +kernel
theorem dX4_verdict_46 : decode cX4_verdict 46 = .ok (.iconst 0, 1) := by decide +kernel
theorem dX4_verdict_47 : decode cX4_verdict 47 = .ok (.ireturn, 1) := by decide +kernel
theorem dX4_leastActivity_0 : decode cX4_leastActivity 0 = .ok (.iload_n 0, 1) := by decide +kernel
theorem dX4_leastActivity_1 : decode cX4_leastActivity 1 = .ok (.tableswitch 35 3 5 #[27, 29, 32], 27) := by decide +kernel
theorem dX4_leastActivity_28 : decode cX4_leastActivity 28 = .ok (.iconst 4, 1) := by decide +kernel
theorem dX4_leastActivity_29 : decode cX4_leastActivity 29 = .ok (.ireturn, 1) := by decide +kernel
theorem dX4_leastActivity_30 : decode cX4_leastActivity 30 = .ok (.bipush 25, 2) := by decide +kernel
theorem dX4_leastActivity_32 : decode cX4_leastActivity 32 = .ok (.ireturn, 1) := by decide +kernel
theorem dX4_leastActivity_33 : decode cX4_leastActivity 33 = .ok (.bipush 80, 2) := by decide +kernel
theorem dX4_leastActivity_35 : decode cX4_leastActivity 35 = .ok (.ireturn, 1) := by decide +kernel
theorem dX4_leastActivity_36 : decode cX4_leastActivity 36 = .ok (.iconst 0, 1) := by decide +kernel
theorem dX4_leastActivity_37 : decode cX4_leastActivity 37 = .ok (.ireturn, 1) := by decide +kernel
theorem dX4_greatestActivity_0 : decode cX4_greatestActivity 0 = .ok (.iload_n 0, 1) := by decide +kernel
theorem dX4_greatestActivity_1 : decode cX4_greatestActivity 1 = .ok (.tableswitch 42 1 4 #[31, 33, 36, 39], 31) := by decide +kernel
theorem dX4_greatestActivity_32 : decode cX4_greatestActivity 32 = .ok (.iconst 1, 1) := by decide +kernel
theorem dX4_greatestActivity_33 : decode cX4_greatestActivity 33 = .ok (.ireturn, 1) := by decide +kernel
theorem dX4_greatestActivity_34 : decode cX4_greatestActivity 34 = .ok (.bipush 9, 2) := by decide +kernel
theorem dX4_greatestActivity_36 : decode cX4_greatestActivity 36 = .ok (.ireturn, 1) := by decide +kernel
theorem dX4_greatestActivity_37 : decode cX4_greatestActivity 37 = .ok (.bipush 40, 2) := by decide +kernel
theorem dX4_greatestActivity_39 : decode cX4_greatestActivity 39 = .ok (.ireturn, 1) := by decide +kernel
theorem dX4_greatestActivity_40 : decode cX4_greatestActivity 40 = .ok (.bipush 120, 2) := by decide +kernel
theorem dX4_greatestActivity_42 : decode cX4_greatestActivity 42 = .ok (.ireturn, 1) := by decide +kernel
theorem dX4_greatestActivity_43 : decode cX4_greatestActivity 43 = .ok (.ldc_w 263, 3) := by decide +kernel
theorem dX4_greatestActivity_46 : decode cX4_greatestActivity 46 = .ok (.ireturn, 1) := by decide +kernel
theorem dJ9_max_7cf53_0 : decode cJ9_max_7cf53 0 = .ok (.iload_n 0, 1) := by decide +kernel
theorem dJ9_max_7cf53_1 : decode cJ9_max_7cf53 1 = .ok (.iload_n 1, 1) := by decide +kernel
theorem dJ9_max_7cf53_2 : decode cJ9_max_7cf53 2 = .ok (.if_icmp .lt 7, 3) := by decide +kernel
theorem dJ9_max_7cf53_5 : decode cJ9_max_7cf53 5 = .ok (.iload_n 0, 1) := by decide +kernel
theorem dJ9_max_7cf53_6 : decode cJ9_max_7cf53 6 = .ok (.goto 4, 3) := by decide +kernel
theorem dJ9_max_7cf53_9 : decode cJ9_max_7cf53 9 = .ok (.iload_n 1, 1) := by decide +kernel
theorem dJ9_max_7cf53_10 : decode cJ9_max_7cf53 10 = .ok (.ireturn, 1) := by decide +kernel
theorem dJ9_min_7cf53_0 : decode cJ9_min_7cf53 0 = .ok (.iload_n 0, 1) := by decide +kernel
theorem dJ9_min_7cf53_1 : decode cJ9_min_7cf53 1 = .ok (.iload_n 1, 1) := by decide +kernel
theorem dJ9_min_7cf53_2 : decode cJ9_min_7cf53 2 = .ok (.if_icmp .gt 7, 3) := by decide +kernel
theorem dJ9_min_7cf53_5 : decode cJ9_min_7cf53 5 = .ok (.iload_n 0, 1) := by decide +kernel
theorem dJ9_min_7cf53_6 : decode cJ9_min_7cf53 6 = .ok (.goto 4, 3) := by decide +kernel
theorem dJ9_min_7cf53_9 : decode cJ9_min_7cf53 9 = .ok (.iload_n 1, 1) := by decide +kernel
theorem dJ9_min_7cf53_10 : decode cJ9_min_7cf53 10 = .ok (.ireturn, 1) := by decide +kernel
theorem dL_below_0 : decode cL_below 0 = .ok (.iload_n 0, 1) := by decide +kernel
theorem dL_below_1 : decode cL_below 1 = .ok (.ldc 7, 2) := by decide +kernel
theorem dL_below_3 : decode cL_below 3 = .ok (.iand, 1) := by decide +kernel
theorem dL_below_4 : decode cL_below 4 = .ok (.iload_n 1, 1) := by decide +kernel
theorem dL_below_5 : decode cL_below 5 = .ok (.irem, 1) := by decide +kernel
theorem dL_below_6 : decode cL_below 6 = .ok (.ireturn, 1) := by decide +kernel
theorem dL_cell_0 : decode cL_cell 0 = .ok (.iload_n 1, 1) := by decide +kernel
theorem dL_cell_1 : decode cL_cell 1 = .ok (.aload_n 0, 1) := by decide +kernel
theorem dL_cell_2 : decode cL_cell 2 = .ok (.arraylength, 1) := by decide +kernel
theorem dL_cell_3 : decode cL_cell 3 = .ok (.if_icmp .ge 9, 3) := by decide +kernel
theorem dL_cell_6 : decode cL_cell 6 = .ok (.aload_n 0, 1) := by decide +kernel
theorem dL_cell_7 : decode cL_cell 7 = .ok (.iload_n 1, 1) := by decide +kernel
theorem dL_cell_8 : decode cL_cell 8 = .ok (.iaload, 1) := by decide +kernel
theorem dL_cell_9 : decode cL_cell 9 = .ok (.goto 9, 3) := by decide +kernel
theorem dL_cell_12 : decode cL_cell 12 = .ok (.ldc 8, 2) := by decide +kernel
theorem dL_cell_14 : decode cL_cell 14 = .ok (.iload_n 1, 1) := by decide +kernel
theorem dL_cell_15 : decode cL_cell 15 = .ok (.iconst 3, 1) := by decide +kernel
theorem dL_cell_16 : decode cL_cell 16 = .ok (.iadd, 1) := by decide +kernel
theorem dL_cell_17 : decode cL_cell 17 = .ok (.imul, 1) := by decide +kernel
theorem dL_cell_18 : decode cL_cell 18 = .ok (.ireturn, 1) := by decide +kernel
set_option maxRecDepth 20000 in
theorem ggL_law_X4_init : GoodIn wsL_law wsX4_init := goodIn_r _ [10, 11, 12, 13, 14, 15, 16, 17, 18, 19, 20, 21, 22, 23, 24, 25, 26, 27, 28, 29, 30, 31, 32, 33, 34, 35, 36, 37, 38, 39, 40, 41, 42, 43, 44, 45, 46, 47, 48, 49, 50, 51, 52, 53, 284, 285, 286, 287, 288, 289, 290, 291, 292, 293, 294, 295, 296, 297, 298, 299, 300, 301, 302, 303, 304, 305, 306, 307] (by decide +kernel) (by decide +kernel)
set_option maxRecDepth 20000 in
theorem gL_law_X4_init : GoodIn wsL_law (wsX4_init) := ggL_law_X4_init
set_option maxRecDepth 20000 in
theorem ggL_law_L_cell : GoodIn wsL_law wsL_cell := goodIn_r _ [57, 58] (by decide +kernel) (by decide +kernel)
set_option maxRecDepth 20000 in
theorem gL_law_L_cell : GoodIn wsL_law (va_wsS RL 12 yL_cell wsL_cell) := goodIn_app (goodIn_of _ (by decide +kernel)) ggL_law_L_cell
set_option maxRecDepth 20000 in
theorem ggL_law_L_below : GoodIn wsL_law wsL_below := goodIn_r _ [61, 62] (by decide +kernel) (by decide +kernel)
set_option maxRecDepth 20000 in
theorem gL_law_L_below : GoodIn wsL_law (va_wsS RL 18 yL_below wsL_below) := goodIn_app (goodIn_of _ (by decide +kernel)) ggL_law_L_below
set_option maxRecDepth 20000 in
theorem ggL_law_X4_addRegion : GoodIn wsL_law wsX4_addRegion := goodIn_ca (goodIn_r _ [66, 67, 68, 69, 284, 285, 286, 287, 288, 289, 290] (by decide +kernel) (by decide +kernel)) (goodIn_sub (fun _ h => List.mem_append_left _ (List.mem_append_left _ (List.mem_append_right _ h))) (by decide +kernel))
set_option maxRecDepth 20000 in
theorem gL_law_X4_addRegion : GoodIn wsL_law (wsV RL 22 RX4 yX4_addRegion wsX4_addRegion) := goodIn_app (goodIn_of _ (by decide +kernel)) ggL_law_X4_addRegion
set_option maxRecDepth 20000 in
theorem ggL_law_X4_weather : GoodIn wsL_law wsX4_weather := goodIn_ca (goodIn_ca (goodIn_r _ [73, 15, 74, 75, 76, 2, 77, 78, 79, 69, 80, 81, 82, 83, 84, 85, 86, 87, 17, 88, 89, 90, 91, 92, 36, 284, 285, 286, 287, 288, 289, 290, 291, 292, 293, 294, 295, 296] (by decide +kernel) (by decide +kernel)) (goodIn_sub (fun _ h => List.mem_append_left _ (List.mem_append_right _ h)) (by decide +kernel))) (goodIn_sub (fun _ h => List.mem_append_right _ h) (by decide +kernel))
set_option maxRecDepth 20000 in
theorem gL_law_X4_weather : GoodIn wsL_law (wsV RL 26 RX4 yX4_weather wsX4_weather) := goodIn_app (goodIn_of _ (by decide +kernel)) ggL_law_X4_weather
set_option maxRecDepth 20000 in
theorem ggL_law_X4_see : GoodIn wsL_law wsX4_see := goodIn_ca (goodIn_ca (goodIn_ca (goodIn_r _ [96, 83, 84, 67, 68, 26, 97, 74, 75, 76, 2, 77, 78, 79, 69, 98, 99, 100, 101, 102, 103, 25, 104, 105, 106, 107, 108, 109, 45, 46, 47, 48, 110, 111, 112, 113, 284, 285, 286, 287, 288, 289, 290, 300, 301, 302, 303, 304] (by decide +kernel) (by decide +kernel)) (goodIn_sub (fun _ h => List.mem_append_right _ h) (by decide +kernel))) (goodIn_sub (fun _ h => List.mem_append_left _ (List.mem_append_left _ (List.mem_append_right _ h))) (by decide +kernel))) (goodIn_sub (fun _ h => List.mem_append_left _ (List.mem_append_right _ h)) (by decide +kernel))
set_option maxRecDepth 20000 in
theorem gL_law_X4_see : GoodIn wsL_law (wsV RL 30 RX4 yX4_see wsX4_see) := goodIn_app (goodIn_of _ (by decide +kernel)) ggL_law_X4_see
set_option maxRecDepth 20000 in
theorem ggL_law_X4_level : GoodIn wsL_law wsX4_level := goodIn_ca (goodIn_r _ [117, 15, 74, 75, 76, 2, 77, 78, 79, 69, 118, 119, 120, 17, 121, 122, 123, 5, 124, 125, 4, 6, 126, 127, 128, 129, 130, 131, 132, 133, 134, 135, 136, 137, 35, 138, 139, 140, 284, 285, 286, 287, 288, 289, 290, 291, 292, 293, 294, 295, 296] (by decide +kernel) (by decide +kernel)) (goodIn_sub (fun _ h => List.mem_append_left _ (List.mem_append_right _ h)) (by decide +kernel))
set_option maxRecDepth 20000 in
theorem gL_law_X4_level : GoodIn wsL_law (wsV RL 34 RX4 yX4_level wsX4_level) := goodIn_app (goodIn_of _ (by decide +kernel)) ggL_law_X4_level
set_option maxRecDepth 20000 in
theorem ggL_law_X4_core : GoodIn wsL_law wsX4_core := goodIn_ca (goodIn_r _ [144, 15, 74, 75, 76, 2, 77, 78, 79, 69, 118, 119, 120, 17, 121, 122, 123, 5, 124, 125, 4, 6, 126, 127, 128, 129, 130, 131, 132, 133, 134, 135, 136, 137, 35, 138, 139, 140, 145, 146, 147, 148, 284, 285, 286, 287, 288, 289, 290, 291, 292, 293, 294, 295, 296] (by decide +kernel) (by decide +kernel)) (goodIn_sub (fun _ h => List.mem_append_left _ (List.mem_append_right _ h)) (by decide +kernel))
set_option maxRecDepth 20000 in
theorem gL_law_X4_core : GoodIn wsL_law (wsV RL 38 RX4 yX4_core wsX4_core) := goodIn_app (goodIn_of _ (by decide +kernel)) ggL_law_X4_core
set_option maxRecDepth 20000 in
theorem ggL_law_X4_sector : GoodIn wsL_law wsX4_sector := goodIn_ca (goodIn_r _ [152, 15, 74, 75, 76, 2, 77, 78, 79, 69, 98, 99, 100, 153, 154, 155, 156, 135, 136, 17, 137, 35, 284, 285, 286, 287, 288, 289, 290, 291, 292, 293, 294, 295, 296] (by decide +kernel) (by decide +kernel)) (goodIn_sub (fun _ h => List.mem_append_left _ (List.mem_append_right _ h)) (by decide +kernel))
set_option maxRecDepth 20000 in
theorem gL_law_X4_sector : GoodIn wsL_law (wsV RL 41 RX4 yX4_sector wsX4_sector) := goodIn_app (goodIn_of _ (by decide +kernel)) ggL_law_X4_sector
set_option maxRecDepth 20000 in
theorem ggL_law_X4_danger : GoodIn wsL_law wsX4_danger := goodIn_ca (goodIn_r _ [160, 15, 74, 75, 76, 2, 77, 78, 79, 69, 98, 99, 100, 161, 127, 128, 17, 129, 122, 123, 5, 124, 125, 4, 6, 130, 131, 132, 133, 134, 135, 136, 137, 35, 162, 139, 140, 284, 285, 286, 287, 288, 289, 290, 291, 292, 293, 294, 295, 296] (by decide +kernel) (by decide +kernel)) (goodIn_sub (fun _ h => List.mem_append_left _ (List.mem_append_right _ h)) (by decide +kernel))
set_option maxRecDepth 20000 in
theorem gL_law_X4_danger : GoodIn wsL_law (wsV RL 44 RX4 yX4_danger wsX4_danger) := goodIn_app (goodIn_of _ (by decide +kernel)) ggL_law_X4_danger
set_option maxRecDepth 20000 in
theorem ggL_law_X4_problem : GoodIn wsL_law wsX4_problem := goodIn_ca (goodIn_r _ [166, 78, 79, 15, 74, 75, 76, 2, 77, 69, 98, 99, 100, 167, 131, 132, 17, 133, 122, 123, 5, 124, 134, 135, 136, 137, 35, 284, 285, 286, 287, 288, 289, 290, 291, 292, 293, 294, 295, 296] (by decide +kernel) (by decide +kernel)) (goodIn_sub (fun _ h => List.mem_append_left _ (List.mem_append_right _ h)) (by decide +kernel))
set_option maxRecDepth 20000 in
theorem gL_law_X4_problem : GoodIn wsL_law (wsV RL 48 RX4 yX4_problem wsX4_problem) := goodIn_app (goodIn_of _ (by decide +kernel)) ggL_law_X4_problem
set_option maxRecDepth 20000 in
theorem ggL_law_X4_publish : GoodIn wsL_law wsX4_publish := goodIn_ca (goodIn_r _ [171, 67, 68, 22, 97, 69, 15, 172, 4, 5, 6, 173, 174, 175, 21, 176, 177, 178, 179, 180, 40, 118, 119, 120, 17, 121, 122, 123, 124, 125, 126, 127, 128, 129, 130, 131, 132, 133, 134, 135, 136, 137, 35, 138, 139, 140, 145, 146, 147, 148, 181, 182, 183, 184, 185, 186, 187, 188, 189, 2, 190, 191, 192, 193, 194, 41, 195, 196, 197, 198, 199, 200, 201, 202, 284, 285, 286, 287, 288, 289, 290, 297, 298, 299, 291, 292, 293, 294, 295, 296] (by decide +kernel) (by decide +kernel)) (goodIn_sub (fun _ h => List.mem_append_left _ (List.mem_append_left _ (List.mem_append_right _ h))) (by decide +kernel))
set_option maxRecDepth 20000 in
theorem gL_law_X4_publish : GoodIn wsL_law (wsV RL 56 RX4 yX4_publish wsX4_publish) := goodIn_app (goodIn_of _ (by decide +kernel)) ggL_law_X4_publish
set_option maxRecDepth 20000 in
theorem ggL_law_X4_mainProblem : GoodIn wsL_law wsX4_mainProblem := goodIn_ca (goodIn_r _ [206, 15, 74, 75, 76, 2, 77, 78, 79, 69, 118, 119, 120, 17, 121, 122, 123, 5, 124, 125, 4, 6, 126, 127, 128, 129, 130, 131, 132, 133, 134, 135, 136, 137, 35, 138, 139, 140, 145, 146, 147, 148, 181, 182, 183, 184, 185, 186, 187, 188, 189, 190, 284, 285, 286, 287, 288, 289, 290, 291, 292, 293, 294, 295, 296] (by decide +kernel) (by decide +kernel)) (goodIn_sub (fun _ h => List.mem_append_left _ (List.mem_append_right _ h)) (by decide +kernel))
set_option maxRecDepth 20000 in
theorem gL_law_X4_mainProblem : GoodIn wsL_law (wsV RL 60 RX4 yX4_mainProblem wsX4_mainProblem) := goodIn_app (goodIn_of _ (by decide +kernel)) ggL_law_X4_mainProblem
set_option maxRecDepth 20000 in
theorem ggL_law_X4_borneOut : GoodIn wsL_law wsX4_borneOut := goodIn_ca (goodIn_r _ [210, 83, 84, 97, 69, 22, 211, 178, 179, 21, 180, 40, 212, 213, 214, 2, 215, 26, 216, 217, 218, 219, 41, 195, 196, 197, 110, 111, 112, 25, 113, 48, 220, 221, 222, 223, 224, 225, 226, 284, 285, 286, 287, 288, 289, 290, 297, 298, 299, 300, 301, 302, 303, 304] (by decide +kernel) (by decide +kernel)) (goodIn_sub (fun _ h => List.mem_append_right _ h) (by decide +kernel))
set_option maxRecDepth 20000 in
theorem gL_law_X4_borneOut : GoodIn wsL_law (wsV RL 63 RX4 yX4_borneOut wsX4_borneOut) := goodIn_app (goodIn_of _ (by decide +kernel)) ggL_law_X4_borneOut
set_option maxRecDepth 20000 in
theorem ggL_law_X4_bulletin : GoodIn wsL_law wsX4_bulletin := goodIn_ca (goodIn_r _ [230, 78, 79, 22, 211, 178, 179, 21, 180, 40, 216, 217, 218, 219, 41, 195, 196, 197, 284, 285, 286, 287, 288, 289, 290, 297, 298, 299] (by decide +kernel) (by decide +kernel)) (goodIn_sub (fun _ h => List.mem_append_left _ (List.mem_append_right _ h)) (by decide +kernel))
set_option maxRecDepth 20000 in
theorem gL_law_X4_bulletin : GoodIn wsL_law (wsV RL 66 RX4 yX4_bulletin wsX4_bulletin) := goodIn_app (goodIn_of _ (by decide +kernel)) ggL_law_X4_bulletin
set_option maxRecDepth 20000 in
theorem ggL_law_X4_end : GoodIn wsL_law wsX4_end := goodIn_ca (goodIn_r _ [234, 67, 68, 97, 69, 15, 235, 236, 237, 17, 238, 36, 90, 239, 240, 241, 242, 134, 135, 136, 137, 35, 243, 244, 245, 246, 122, 123, 5, 124, 247, 248, 249, 250, 251, 252, 253, 254, 255, 256, 257, 91, 92, 258, 259, 260, 261, 262, 263, 264, 265, 266, 267, 268, 269, 270, 271, 272, 273, 89, 274, 86, 87, 88, 284, 285, 286, 287, 288, 289, 290, 291, 292, 293, 294, 295, 296] (by decide +kernel) (by decide +kernel)) (goodIn_sub (fun _ h => List.mem_append_left _ (List.mem_append_left _ (List.mem_append_right _ h))) (by decide +kernel))
set_option maxRecDepth 20000 in
theorem gL_law_X4_end : GoodIn wsL_law (wsV RL 69 RX4 yX4_end wsX4_end) := goodIn_app (goodIn_of _ (by decide +kernel)) ggL_law_X4_end
set_option maxRecDepth 20000 in
theorem ggL_law_X4_inCore : GoodIn wsL_law wsX4_inCore := goodIn_ca (goodIn_r _ [278, 26, 22, 74, 75, 76, 2, 77, 78, 79, 69, 211, 178, 179, 21, 180, 40, 216, 217, 218, 219, 41, 195, 196, 197, 279, 189, 190, 284, 285, 286, 287, 288, 289, 290, 300, 301, 302, 303, 304, 297, 298, 299] (by decide +kernel) (by decide +kernel)) (goodIn_sub (fun _ h => List.mem_append_left _ (List.mem_append_right _ h)) (by decide +kernel))
set_option maxRecDepth 20000 in
theorem gL_law_X4_inCore : GoodIn wsL_law (wsV RL 72 RX4 yX4_inCore wsX4_inCore) := goodIn_app (goodIn_of _ (by decide +kernel)) ggL_law_X4_inCore
set_option maxRecDepth 20000 in
theorem ggL_law_X4_day : GoodIn wsL_law wsX4_day := goodIn_r _ [283, 97, 284, 285, 286, 287, 288, 289, 290] (by decide +kernel) (by decide +kernel)
set_option maxRecDepth 20000 in
theorem gL_law_X4_day : GoodIn wsL_law (wsV RL 76 RX4 yX4_day wsX4_day) := goodIn_app (goodIn_of _ (by decide +kernel)) ggL_law_X4_day
theorem dL_law_0 : decode cL_law 0 = .ok (.new 9, 3) := by decide +kernel
theorem dL_law_3 : decode cL_law 3 = .ok (.dup, 1) := by decide +kernel
theorem dL_law_4 : decode cL_law 4 = .ok (.invokespecial 11, 3) := by decide +kernel
theorem dL_law_7 : decode cL_law 7 = .ok (.astore_n 1, 1) := by decide +kernel
theorem dL_law_8 : decode cL_law 8 = .ok (.iconst 1, 1) := by decide +kernel
theorem dL_law_9 : decode cL_law 9 = .ok (.aload_n 0, 1) := by decide +kernel
theorem dL_law_10 : decode cL_law 10 = .ok (.iconst 0, 1) := by decide +kernel
theorem dL_law_11 : decode cL_law 11 = .ok (.invokestatic 12, 3) := by decide +kernel
theorem dL_law_14 : decode cL_law 14 = .ok (.iconst 4, 1) := by decide +kernel
theorem dL_law_15 : decode cL_law 15 = .ok (.invokestatic 18, 3) := by decide +kernel
theorem dL_law_18 : decode cL_law 18 = .ok (.iadd, 1) := by decide +kernel
theorem dL_law_19 : decode cL_law 19 = .ok (.istore_n 2, 1) := by decide +kernel
theorem dL_law_20 : decode cL_law 20 = .ok (.iconst 0, 1) := by decide +kernel
theorem dL_law_21 : decode cL_law 21 = .ok (.istore_n 3, 1) := by decide +kernel
theorem dL_law_22 : decode cL_law 22 = .ok (.iload_n 3, 1) := by decide +kernel
theorem dL_law_23 : decode cL_law 23 = .ok (.iload_n 2, 1) := by decide +kernel
theorem dL_law_24 : decode cL_law 24 = .ok (.if_icmp .ge 14, 3) := by decide +kernel
theorem dL_law_27 : decode cL_law 27 = .ok (.aload_n 1, 1) := by decide +kernel
theorem dL_law_28 : decode cL_law 28 = .ok (.invokevirtual 22, 3) := by decide +kernel
theorem dL_law_31 : decode cL_law 31 = .ok (.pop, 1) := by decide +kernel
theorem dL_law_32 : decode cL_law 32 = .ok (.iinc 3 1, 3) := by decide +kernel
theorem dL_law_35 : decode cL_law 35 = .ok (.goto (-13), 3) := by decide +kernel
theorem dL_law_38 : decode cL_law 38 = .ok (.iconst 0, 1) := by decide +kernel
theorem dL_law_39 : decode cL_law 39 = .ok (.istore_n 3, 1) := by decide +kernel
theorem dL_law_40 : decode cL_law 40 = .ok (.iconst (-1), 1) := by decide +kernel
theorem dL_law_41 : decode cL_law 41 = .ok (.istore 4, 2) := by decide +kernel
theorem dL_law_43 : decode cL_law 43 = .ok (.iconst 0, 1) := by decide +kernel
theorem dL_law_44 : decode cL_law 44 = .ok (.istore 5, 2) := by decide +kernel
theorem dL_law_46 : decode cL_law 46 = .ok (.iconst 0, 1) := by decide +kernel
theorem dL_law_47 : decode cL_law 47 = .ok (.istore 6, 2) := by decide +kernel
theorem dL_law_49 : decode cL_law 49 = .ok (.iload 6, 2) := by decide +kernel
theorem dL_law_51 : decode cL_law 51 = .ok (.bipush 18, 2) := by decide +kernel
theorem dL_law_53 : decode cL_law 53 = .ok (.if_icmp .ge 586, 3) := by decide +kernel
theorem dL_law_56 : decode cL_law 56 = .ok (.aload_n 0, 1) := by decide +kernel
theorem dL_law_57 : decode cL_law 57 = .ok (.iconst 1, 1) := by decide +kernel
theorem dL_law_58 : decode cL_law 58 = .ok (.iload 6, 2) := by decide +kernel
theorem dL_law_60 : decode cL_law 60 = .ok (.bipush 6, 2) := by decide +kernel
theorem dL_law_62 : decode cL_law 62 = .ok (.irem, 1) := by decide +kernel
theorem dL_law_63 : decode cL_law 63 = .ok (.iadd, 1) := by decide +kernel
theorem dL_law_64 : decode cL_law 64 = .ok (.invokestatic 12, 3) := by decide +kernel
theorem dL_law_67 : decode cL_law 67 = .ok (.iload 6, 2) := by decide +kernel
theorem dL_law_69 : decode cL_law 69 = .ok (.bipush 6, 2) := by decide +kernel
theorem dL_law_71 : decode cL_law 71 = .ok (.idiv, 1) := by decide +kernel
theorem dL_law_72 : decode cL_law 72 = .ok (.iconst 5, 1) := by decide +kernel
theorem dL_law_73 : decode cL_law 73 = .ok (.imul, 1) := by decide +kernel
theorem dL_law_74 : decode cL_law 74 = .ok (.ishr, 1) := by decide +kernel
theorem dL_law_75 : decode cL_law 75 = .ok (.iload 6, 2) := by decide +kernel
theorem dL_law_77 : decode cL_law 77 = .ok (.sipush 911, 3) := by decide +kernel
theorem dL_law_80 : decode cL_law 80 = .ok (.imul, 1) := by decide +kernel
theorem dL_law_81 : decode cL_law 81 = .ok (.ixor, 1) := by decide +kernel
theorem dL_law_82 : decode cL_law 82 = .ok (.istore 7, 2) := by decide +kernel
theorem dL_law_84 : decode cL_law 84 = .ok (.iconst 0, 1) := by decide +kernel
theorem dL_law_85 : decode cL_law 85 = .ok (.istore 8, 2) := by decide +kernel
theorem dL_law_87 : decode cL_law 87 = .ok (.iload 8, 2) := by decide +kernel
theorem dL_law_89 : decode cL_law 89 = .ok (.iload_n 2, 1) := by decide +kernel
theorem dL_law_90 : decode cL_law 90 = .ok (.if_icmp .ge 380, 3) := by decide +kernel
theorem dL_law_93 : decode cL_law 93 = .ok (.iload 7, 2) := by decide +kernel
theorem dL_law_95 : decode cL_law 95 = .ok (.iload 8, 2) := by decide +kernel
theorem dL_law_97 : decode cL_law 97 = .ok (.sipush 7919, 3) := by decide +kernel
theorem dL_law_100 : decode cL_law 100 = .ok (.imul, 1) := by decide +kernel
theorem dL_law_101 : decode cL_law 101 = .ok (.ixor, 1) := by decide +kernel
theorem dL_law_102 : decode cL_law 102 = .ok (.istore 9, 2) := by decide +kernel
theorem dL_law_104 : decode cL_law 104 = .ok (.iload 9, 2) := by decide +kernel
theorem dL_law_106 : decode cL_law 106 = .ok (.iconst 5, 1) := by decide +kernel
theorem dL_law_107 : decode cL_law 107 = .ok (.invokestatic 18, 3) := by decide +kernel
theorem dL_law_110 : decode cL_law 110 = .ok (.ifCond .le 61, 3) := by decide +kernel
theorem dL_law_113 : decode cL_law 113 = .ok (.aload_n 1, 1) := by decide +kernel
theorem dL_law_114 : decode cL_law 114 = .ok (.iload 8, 2) := by decide +kernel
theorem dL_law_116 : decode cL_law 116 = .ok (.iload 9, 2) := by decide +kernel
theorem dL_law_118 : decode cL_law 118 = .ok (.iconst 3, 1) := by decide +kernel
theorem dL_law_119 : decode cL_law 119 = .ok (.ishr, 1) := by decide +kernel
theorem dL_law_120 : decode cL_law 120 = .ok (.iconst 2, 1) := by decide +kernel
theorem dL_law_121 : decode cL_law 121 = .ok (.invokestatic 18, 3) := by decide +kernel
theorem dL_law_124 : decode cL_law 124 = .ok (.iload 9, 2) := by decide +kernel
theorem dL_law_126 : decode cL_law 126 = .ok (.iconst 4, 1) := by decide +kernel
theorem dL_law_127 : decode cL_law 127 = .ok (.ishr, 1) := by decide +kernel
theorem dL_law_128 : decode cL_law 128 = .ok (.sipush 151, 3) := by decide +kernel
theorem dL_law_131 : decode cL_law 131 = .ok (.invokestatic 18, 3) := by decide +kernel
theorem dL_law_134 : decode cL_law 134 = .ok (.imul, 1) := by decide +kernel
theorem dL_law_135 : decode cL_law 135 = .ok (.iload 9, 2) := by decide +kernel
theorem dL_law_137 : decode cL_law 137 = .ok (.bipush 7, 2) := by decide +kernel
theorem dL_law_139 : decode cL_law 139 = .ok (.ishr, 1) := by decide +kernel
theorem dL_law_140 : decode cL_law 140 = .ok (.bipush 121, 2) := by decide +kernel
theorem dL_law_142 : decode cL_law 142 = .ok (.invokestatic 18, 3) := by decide +kernel
theorem dL_law_145 : decode cL_law 145 = .ok (.iload 9, 2) := by decide +kernel
theorem dL_law_147 : decode cL_law 147 = .ok (.bipush 9, 2) := by decide +kernel
theorem dL_law_149 : decode cL_law 149 = .ok (.ishr, 1) := by decide +kernel
theorem dL_law_150 : decode cL_law 150 = .ok (.iconst 4, 1) := by decide +kernel
theorem dL_law_151 : decode cL_law 151 = .ok (.invokestatic 18, 3) := by decide +kernel
theorem dL_law_154 : decode cL_law 154 = .ok (.iload 9, 2) := by decide +kernel
theorem dL_law_156 : decode cL_law 156 = .ok (.bipush 11, 2) := by decide +kernel
theorem dL_law_158 : decode cL_law 158 = .ok (.ishr, 1) := by decide +kernel
theorem dL_law_159 : decode cL_law 159 = .ok (.bipush 46, 2) := by decide +kernel
theorem dL_law_161 : decode cL_law 161 = .ok (.invokestatic 18, 3) := by decide +kernel
theorem dL_law_164 : decode cL_law 164 = .ok (.bipush 30, 2) := by decide +kernel
theorem dL_law_166 : decode cL_law 166 = .ok (.isub, 1) := by decide +kernel
theorem dL_law_167 : decode cL_law 167 = .ok (.invokevirtual 26, 3) := by decide +kernel
theorem dL_law_170 : decode cL_law 170 = .ok (.pop, 1) := by decide +kernel
theorem dL_law_171 : decode cL_law 171 = .ok (.iload 9, 2) := by decide +kernel
theorem dL_law_173 : decode cL_law 173 = .ok (.iconst 5, 1) := by decide +kernel
theorem dL_law_174 : decode cL_law 174 = .ok (.ishr, 1) := by decide +kernel
theorem dL_law_175 : decode cL_law 175 = .ok (.iconst 3, 1) := by decide +kernel
theorem dL_law_176 : decode cL_law 176 = .ok (.invokestatic 18, 3) := by decide +kernel
theorem dL_law_179 : decode cL_law 179 = .ok (.ifCond .ne 31, 3) := by decide +kernel
theorem dL_law_182 : decode cL_law 182 = .ok (.aload_n 1, 1) := by decide +kernel
theorem dL_law_183 : decode cL_law 183 = .ok (.iload 8, 2) := by decide +kernel
theorem dL_law_185 : decode cL_law 185 = .ok (.iload 9, 2) := by decide +kernel
theorem dL_law_187 : decode cL_law 187 = .ok (.bipush 6, 2) := by decide +kernel
theorem dL_law_189 : decode cL_law 189 = .ok (.ishr, 1) := by decide +kernel
theorem dL_law_190 : decode cL_law 190 = .ok (.bipush 12, 2) := by decide +kernel
theorem dL_law_192 : decode cL_law 192 = .ok (.invokestatic 18, 3) := by decide +kernel
theorem dL_law_195 : decode cL_law 195 = .ok (.iconst 1, 1) := by decide +kernel
theorem dL_law_196 : decode cL_law 196 = .ok (.iload 9, 2) := by decide +kernel
theorem dL_law_198 : decode cL_law 198 = .ok (.bipush 8, 2) := by decide +kernel
theorem dL_law_200 : decode cL_law 200 = .ok (.ishr, 1) := by decide +kernel
theorem dL_law_201 : decode cL_law 201 = .ok (.iconst 5, 1) := by decide +kernel
theorem dL_law_202 : decode cL_law 202 = .ok (.invokestatic 18, 3) := by decide +kernel
theorem dL_law_205 : decode cL_law 205 = .ok (.iadd, 1) := by decide +kernel
theorem dL_law_206 : decode cL_law 206 = .ok (.invokevirtual 30, 3) := by decide +kernel
theorem dL_law_209 : decode cL_law 209 = .ok (.pop, 1) := by decide +kernel
theorem dL_law_210 : decode cL_law 210 = .ok (.aload_n 1, 1) := by decide +kernel
theorem dL_law_211 : decode cL_law 211 = .ok (.iload 8, 2) := by decide +kernel
theorem dL_law_213 : decode cL_law 213 = .ok (.invokevirtual 34, 3) := by decide +kernel
theorem dL_law_216 : decode cL_law 216 = .ok (.istore 10, 2) := by decide +kernel
theorem dL_law_218 : decode cL_law 218 = .ok (.aload_n 1, 1) := by decide +kernel
theorem dL_law_219 : decode cL_law 219 = .ok (.iload 8, 2) := by decide +kernel
theorem dL_law_221 : decode cL_law 221 = .ok (.invokevirtual 38, 3) := by decide +kernel
theorem dL_law_224 : decode cL_law 224 = .ok (.istore 11, 2) := by decide +kernel
theorem dL_law_226 : decode cL_law 226 = .ok (.iconst 0, 1) := by decide +kernel
theorem dL_law_227 : decode cL_law 227 = .ok (.istore 12, 2) := by decide +kernel
theorem dL_law_229 : decode cL_law 229 = .ok (.iconst 0, 1) := by decide +kernel
theorem dL_law_230 : decode cL_law 230 = .ok (.istore 13, 2) := by decide +kernel
theorem dL_law_232 : decode cL_law 232 = .ok (.iload 13, 2) := by decide +kernel
theorem dL_law_234 : decode cL_law 234 = .ok (.bipush 12, 2) := by decide +kernel
theorem dL_law_236 : decode cL_law 236 = .ok (.if_icmp .ge 208, 3) := by decide +kernel
theorem dL_law_239 : decode cL_law 239 = .ok (.iconst 0, 1) := by decide +kernel
theorem dL_law_240 : decode cL_law 240 = .ok (.istore 14, 2) := by decide +kernel
theorem dL_law_242 : decode cL_law 242 = .ok (.iload 14, 2) := by decide +kernel
theorem dL_law_244 : decode cL_law 244 = .ok (.iconst 5, 1) := by decide +kernel
theorem dL_law_245 : decode cL_law 245 = .ok (.if_icmp .ge 50, 3) := by decide +kernel
theorem dL_law_248 : decode cL_law 248 = .ok (.aload_n 1, 1) := by decide +kernel
theorem dL_law_249 : decode cL_law 249 = .ok (.iload 8, 2) := by decide +kernel
theorem dL_law_251 : decode cL_law 251 = .ok (.iload 13, 2) := by decide +kernel
theorem dL_law_253 : decode cL_law 253 = .ok (.iload 14, 2) := by decide +kernel
theorem dL_law_255 : decode cL_law 255 = .ok (.invokevirtual 41, 3) := by decide +kernel
theorem dL_law_258 : decode cL_law 258 = .ok (.ifCond .lt 29, 3) := by decide +kernel
theorem dL_law_261 : decode cL_law 261 = .ok (.aload_n 1, 1) := by decide +kernel
theorem dL_law_262 : decode cL_law 262 = .ok (.iload 8, 2) := by decide +kernel
theorem dL_law_264 : decode cL_law 264 = .ok (.iload 13, 2) := by decide +kernel
theorem dL_law_266 : decode cL_law 266 = .ok (.iload 14, 2) := by decide +kernel
theorem dL_law_268 : decode cL_law 268 = .ok (.invokevirtual 41, 3) := by decide +kernel
theorem dL_law_271 : decode cL_law 271 = .ok (.iload 14, 2) := by decide +kernel
theorem dL_law_273 : decode cL_law 273 = .ok (.iconst 4, 1) := by decide +kernel
theorem dL_law_274 : decode cL_law 274 = .ok (.if_icmp .ne 8, 3) := by decide +kernel
theorem dL_law_277 : decode cL_law 277 = .ok (.bipush 10, 2) := by decide +kernel
theorem dL_law_279 : decode cL_law 279 = .ok (.goto 5, 3) := by decide +kernel
theorem dL_law_282 : decode cL_law 282 = .ok (.bipush 100, 2) := by decide +kernel
theorem dL_law_284 : decode cL_law 284 = .ok (.if_icmp .le 5, 3) := by decide +kernel
theorem dL_law_287 : decode cL_law 287 = .ok (.iconst 0, 1) := by decide +kernel
theorem dL_law_288 : decode cL_law 288 = .ok (.ireturn, 1) := by decide +kernel
theorem dL_law_289 : decode cL_law 289 = .ok (.iinc 14 1, 3) := by decide +kernel
theorem dL_law_292 : decode cL_law 292 = .ok (.goto (-50), 3) := by decide +kernel
theorem dL_law_295 : decode cL_law 295 = .ok (.aload_n 1, 1) := by decide +kernel
theorem dL_law_296 : decode cL_law 296 = .ok (.iload 8, 2) := by decide +kernel
theorem dL_law_298 : decode cL_law 298 = .ok (.iload 13, 2) := by decide +kernel
theorem dL_law_300 : decode cL_law 300 = .ok (.iconst 1, 1) := by decide +kernel
theorem dL_law_301 : decode cL_law 301 = .ok (.invokevirtual 44, 3) := by decide +kernel
theorem dL_law_304 : decode cL_law 304 = .ok (.iload 10, 2) := by decide +kernel
theorem dL_law_306 : decode cL_law 306 = .ok (.if_icmp .lt 7, 3) := by decide +kernel
theorem dL_law_309 : decode cL_law 309 = .ok (.iconst 1, 1) := by decide +kernel
theorem dL_law_310 : decode cL_law 310 = .ok (.goto 4, 3) := by decide +kernel
theorem dL_law_313 : decode cL_law 313 = .ok (.iconst 0, 1) := by decide +kernel
theorem dL_law_314 : decode cL_law 314 = .ok (.istore 14, 2) := by decide +kernel
theorem dL_law_316 : decode cL_law 316 = .ok (.iload 11, 2) := by decide +kernel
theorem dL_law_318 : decode cL_law 318 = .ok (.iload 13, 2) := by decide +kernel
theorem dL_law_320 : decode cL_law 320 = .ok (.ishr, 1) := by decide +kernel
theorem dL_law_321 : decode cL_law 321 = .ok (.iconst 1, 1) := by decide +kernel
theorem dL_law_322 : decode cL_law 322 = .ok (.iand, 1) := by decide +kernel
theorem dL_law_323 : decode cL_law 323 = .ok (.iconst 1, 1) := by decide +kernel
theorem dL_law_324 : decode cL_law 324 = .ok (.if_icmp .ne 7, 3) := by decide +kernel
theorem dL_law_327 : decode cL_law 327 = .ok (.iconst 1, 1) := by decide +kernel
theorem dL_law_328 : decode cL_law 328 = .ok (.goto 4, 3) := by decide +kernel
theorem dL_law_331 : decode cL_law 331 = .ok (.iconst 0, 1) := by decide +kernel
theorem dL_law_332 : decode cL_law 332 = .ok (.iload 14, 2) := by decide +kernel
theorem dL_law_334 : decode cL_law 334 = .ok (.if_icmp .ne 17, 3) := by decide +kernel
theorem dL_law_337 : decode cL_law 337 = .ok (.aload_n 1, 1) := by decide +kernel
theorem dL_law_338 : decode cL_law 338 = .ok (.iload 8, 2) := by decide +kernel
theorem dL_law_340 : decode cL_law 340 = .ok (.iload 13, 2) := by decide +kernel
theorem dL_law_342 : decode cL_law 342 = .ok (.iconst 0, 1) := by decide +kernel
theorem dL_law_343 : decode cL_law 343 = .ok (.invokevirtual 44, 3) := by decide +kernel
theorem dL_law_346 : decode cL_law 346 = .ok (.bipush 125, 2) := by decide +kernel
theorem dL_law_348 : decode cL_law 348 = .ok (.if_icmp .le 5, 3) := by decide +kernel
theorem dL_law_351 : decode cL_law 351 = .ok (.iconst 0, 1) := by decide +kernel
theorem dL_law_352 : decode cL_law 352 = .ok (.ireturn, 1) := by decide +kernel
theorem dL_law_353 : decode cL_law 353 = .ok (.iload 12, 2) := by decide +kernel
theorem dL_law_355 : decode cL_law 355 = .ok (.iload 14, 2) := by decide +kernel
theorem dL_law_357 : decode cL_law 357 = .ok (.ifCond .eq 7, 3) := by decide +kernel
theorem dL_law_360 : decode cL_law 360 = .ok (.iconst 1, 1) := by decide +kernel
theorem dL_law_361 : decode cL_law 361 = .ok (.goto 4, 3) := by decide +kernel
theorem dL_law_364 : decode cL_law 364 = .ok (.iconst 0, 1) := by decide +kernel
theorem dL_law_365 : decode cL_law 365 = .ok (.iadd, 1) := by decide +kernel
theorem dL_law_366 : decode cL_law 366 = .ok (.istore 12, 2) := by decide +kernel
theorem dL_law_368 : decode cL_law 368 = .ok (.iconst 0, 1) := by decide +kernel
theorem dL_law_369 : decode cL_law 369 = .ok (.istore 15, 2) := by decide +kernel
theorem dL_law_371 : decode cL_law 371 = .ok (.iconst 0, 1) := by decide +kernel
theorem dL_law_372 : decode cL_law 372 = .ok (.istore 16, 2) := by decide +kernel
theorem dL_law_374 : decode cL_law 374 = .ok (.iload 16, 2) := by decide +kernel
theorem dL_law_376 : decode cL_law 376 = .ok (.iconst 4, 1) := by decide +kernel
theorem dL_law_377 : decode cL_law 377 = .ok (.if_icmp .ge 26, 3) := by decide +kernel
theorem dL_law_380 : decode cL_law 380 = .ok (.iload 15, 2) := by decide +kernel
theorem dL_law_382 : decode cL_law 382 = .ok (.aload_n 1, 1) := by decide +kernel
theorem dL_law_383 : decode cL_law 383 = .ok (.iload 8, 2) := by decide +kernel
theorem dL_law_385 : decode cL_law 385 = .ok (.iload 13, 2) := by decide +kernel
theorem dL_law_387 : decode cL_law 387 = .ok (.iload 16, 2) := by decide +kernel
theorem dL_law_389 : decode cL_law 389 = .ok (.invokevirtual 48, 3) := by decide +kernel
theorem dL_law_392 : decode cL_law 392 = .ok (.invokestatic 51, 3) := by decide +kernel
theorem dL_law_395 : decode cL_law 395 = .ok (.istore 15, 2) := by decide +kernel
theorem dL_law_397 : decode cL_law 397 = .ok (.iinc 16 1, 3) := by decide +kernel
theorem dL_law_400 : decode cL_law 400 = .ok (.goto (-26), 3) := by decide +kernel
theorem dL_law_403 : decode cL_law 403 = .ok (.aload_n 1, 1) := by decide +kernel
theorem dL_law_404 : decode cL_law 404 = .ok (.iload 8, 2) := by decide +kernel
theorem dL_law_406 : decode cL_law 406 = .ok (.iload 13, 2) := by decide +kernel
theorem dL_law_408 : decode cL_law 408 = .ok (.iconst 0, 1) := by decide +kernel
theorem dL_law_409 : decode cL_law 409 = .ok (.invokevirtual 44, 3) := by decide +kernel
theorem dL_law_412 : decode cL_law 412 = .ok (.iload 15, 2) := by decide +kernel
theorem dL_law_414 : decode cL_law 414 = .ok (.if_icmp .lt 22, 3) := by decide +kernel
theorem dL_law_417 : decode cL_law 417 = .ok (.aload_n 1, 1) := by decide +kernel
theorem dL_law_418 : decode cL_law 418 = .ok (.iload 8, 2) := by decide +kernel
theorem dL_law_420 : decode cL_law 420 = .ok (.iload 13, 2) := by decide +kernel
theorem dL_law_422 : decode cL_law 422 = .ok (.iconst 0, 1) := by decide +kernel
theorem dL_law_423 : decode cL_law 423 = .ok (.invokevirtual 44, 3) := by decide +kernel
theorem dL_law_426 : decode cL_law 426 = .ok (.iload 15, 2) := by decide +kernel
theorem dL_law_428 : decode cL_law 428 = .ok (.iload 15, 2) := by decide +kernel
theorem dL_law_430 : decode cL_law 430 = .ok (.iconst 4, 1) := by decide +kernel
theorem dL_law_431 : decode cL_law 431 = .ok (.idiv, 1) := by decide +kernel
theorem dL_law_432 : decode cL_law 432 = .ok (.iadd, 1) := by decide +kernel
theorem dL_law_433 : decode cL_law 433 = .ok (.if_icmp .le 5, 3) := by decide +kernel
theorem dL_law_436 : decode cL_law 436 = .ok (.iconst 0, 1) := by decide +kernel
theorem dL_law_437 : decode cL_law 437 = .ok (.ireturn, 1) := by decide +kernel
theorem dL_law_438 : decode cL_law 438 = .ok (.iinc 13 1, 3) := by decide +kernel
theorem dL_law_441 : decode cL_law 441 = .ok (.goto (-209), 3) := by decide +kernel
theorem dL_law_444 : decode cL_law 444 = .ok (.iload 12, 2) := by decide +kernel
theorem dL_law_446 : decode cL_law 446 = .ok (.iconst 2, 1) := by decide +kernel
theorem dL_law_447 : decode cL_law 447 = .ok (.if_icmp .lt 15, 3) := by decide +kernel
theorem dL_law_450 : decode cL_law 450 = .ok (.iload 10, 2) := by decide +kernel
theorem dL_law_452 : decode cL_law 452 = .ok (.iconst 1, 1) := by decide +kernel
theorem dL_law_453 : decode cL_law 453 = .ok (.if_icmp .lt 9, 3) := by decide +kernel
theorem dL_law_456 : decode cL_law 456 = .ok (.iload 10, 2) := by decide +kernel
theorem dL_law_458 : decode cL_law 458 = .ok (.iconst 5, 1) := by decide +kernel
theorem dL_law_459 : decode cL_law 459 = .ok (.if_icmp .le 5, 3) := by decide +kernel
theorem dL_law_462 : decode cL_law 462 = .ok (.iconst 0, 1) := by decide +kernel
theorem dL_law_463 : decode cL_law 463 = .ok (.ireturn, 1) := by decide +kernel
theorem dL_law_464 : decode cL_law 464 = .ok (.iinc 8 1, 3) := by decide +kernel
theorem dL_law_467 : decode cL_law 467 = .ok (.goto (-380), 3) := by decide +kernel
theorem dL_law_470 : decode cL_law 470 = .ok (.iload 7, 2) := by decide +kernel
theorem dL_law_472 : decode cL_law 472 = .ok (.iconst 2, 1) := by decide +kernel
theorem dL_law_473 : decode cL_law 473 = .ok (.ishr, 1) := by decide +kernel
theorem dL_law_474 : decode cL_law 474 = .ok (.iconst 2, 1) := by decide +kernel
theorem dL_law_475 : decode cL_law 475 = .ok (.invokestatic 18, 3) := by decide +kernel
theorem dL_law_478 : decode cL_law 478 = .ok (.ifCond .ne 83, 3) := by decide +kernel
theorem dL_law_481 : decode cL_law 481 = .ok (.iconst 0, 1) := by decide +kernel
theorem dL_law_482 : decode cL_law 482 = .ok (.istore 8, 2) := by decide +kernel
theorem dL_law_484 : decode cL_law 484 = .ok (.iconst 0, 1) := by decide +kernel
theorem dL_law_485 : decode cL_law 485 = .ok (.istore 9, 2) := by decide +kernel
theorem dL_law_487 : decode cL_law 487 = .ok (.iload 9, 2) := by decide +kernel
theorem dL_law_489 : decode cL_law 489 = .ok (.iload_n 2, 1) := by decide +kernel
theorem dL_law_490 : decode cL_law 490 = .ok (.if_icmp .ge 22, 3) := by decide +kernel
theorem dL_law_493 : decode cL_law 493 = .ok (.iload 8, 2) := by decide +kernel
theorem dL_law_495 : decode cL_law 495 = .ok (.aload_n 1, 1) := by decide +kernel
theorem dL_law_496 : decode cL_law 496 = .ok (.iload 9, 2) := by decide +kernel
theorem dL_law_498 : decode cL_law 498 = .ok (.invokevirtual 34, 3) := by decide +kernel
theorem dL_law_501 : decode cL_law 501 = .ok (.invokestatic 51, 3) := by decide +kernel
theorem dL_law_504 : decode cL_law 504 = .ok (.istore 8, 2) := by decide +kernel
theorem dL_law_506 : decode cL_law 506 = .ok (.iinc 9 1, 3) := by decide +kernel
theorem dL_law_509 : decode cL_law 509 = .ok (.goto (-22), 3) := by decide +kernel
theorem dL_law_512 : decode cL_law 512 = .ok (.aload_n 1, 1) := by decide +kernel
theorem dL_law_513 : decode cL_law 513 = .ok (.invokevirtual 56, 3) := by decide +kernel
theorem dL_law_516 : decode cL_law 516 = .ok (.iload 8, 2) := by decide +kernel
theorem dL_law_518 : decode cL_law 518 = .ok (.if_icmp .eq 5, 3) := by decide +kernel
theorem dL_law_521 : decode cL_law 521 = .ok (.iconst 0, 1) := by decide +kernel
theorem dL_law_522 : decode cL_law 522 = .ok (.ireturn, 1) := by decide +kernel
theorem dL_law_523 : decode cL_law 523 = .ok (.iload_n 3, 1) := by decide +kernel
theorem dL_law_524 : decode cL_law 524 = .ok (.iload_n 2, 1) := by decide +kernel
theorem dL_law_525 : decode cL_law 525 = .ok (.iadd, 1) := by decide +kernel
theorem dL_law_526 : decode cL_law 526 = .ok (.istore_n 3, 1) := by decide +kernel
theorem dL_law_527 : decode cL_law 527 = .ok (.iload 4, 2) := by decide +kernel
theorem dL_law_529 : decode cL_law 529 = .ok (.ifCond .ge 32, 3) := by decide +kernel
theorem dL_law_532 : decode cL_law 532 = .ok (.iload 6, 2) := by decide +kernel
theorem dL_law_534 : decode cL_law 534 = .ok (.istore 4, 2) := by decide +kernel
theorem dL_law_536 : decode cL_law 536 = .ok (.ldc 59, 2) := by decide +kernel
theorem dL_law_538 : decode cL_law 538 = .ok (.aload_n 1, 1) := by decide +kernel
theorem dL_law_539 : decode cL_law 539 = .ok (.iconst 0, 1) := by decide +kernel
theorem dL_law_540 : decode cL_law 540 = .ok (.invokevirtual 34, 3) := by decide +kernel
theorem dL_law_543 : decode cL_law 543 = .ok (.imul, 1) := by decide +kernel
theorem dL_law_544 : decode cL_law 544 = .ok (.bipush 10, 2) := by decide +kernel
theorem dL_law_546 : decode cL_law 546 = .ok (.aload_n 1, 1) := by decide +kernel
theorem dL_law_547 : decode cL_law 547 = .ok (.iconst 0, 1) := by decide +kernel
theorem dL_law_548 : decode cL_law 548 = .ok (.invokevirtual 38, 3) := by decide +kernel
theorem dL_law_551 : decode cL_law 551 = .ok (.imul, 1) := by decide +kernel
theorem dL_law_552 : decode cL_law 552 = .ok (.iadd, 1) := by decide +kernel
theorem dL_law_553 : decode cL_law 553 = .ok (.aload_n 1, 1) := by decide +kernel
theorem dL_law_554 : decode cL_law 554 = .ok (.iconst 0, 1) := by decide +kernel
theorem dL_law_555 : decode cL_law 555 = .ok (.invokevirtual 60, 3) := by decide +kernel
theorem dL_law_558 : decode cL_law 558 = .ok (.iadd, 1) := by decide +kernel
theorem dL_law_559 : decode cL_law 559 = .ok (.istore 5, 2) := by decide +kernel
theorem dL_law_561 : decode cL_law 561 = .ok (.aload_n 1, 1) := by decide +kernel
theorem dL_law_562 : decode cL_law 562 = .ok (.iconst (-1), 1) := by decide +kernel
theorem dL_law_563 : decode cL_law 563 = .ok (.invokevirtual 63, 3) := by decide +kernel
theorem dL_law_566 : decode cL_law 566 = .ok (.aload_n 1, 1) := by decide +kernel
theorem dL_law_567 : decode cL_law 567 = .ok (.iconst 0, 1) := by decide +kernel
theorem dL_law_568 : decode cL_law 568 = .ok (.invokevirtual 63, 3) := by decide +kernel
theorem dL_law_571 : decode cL_law 571 = .ok (.iadd, 1) := by decide +kernel
theorem dL_law_572 : decode cL_law 572 = .ok (.aload_n 1, 1) := by decide +kernel
theorem dL_law_573 : decode cL_law 573 = .ok (.iconst 1, 1) := by decide +kernel
theorem dL_law_574 : decode cL_law 574 = .ok (.invokevirtual 63, 3) := by decide +kernel
theorem dL_law_577 : decode cL_law 577 = .ok (.iadd, 1) := by decide +kernel
theorem dL_law_578 : decode cL_law 578 = .ok (.iload_n 3, 1) := by decide +kernel
theorem dL_law_579 : decode cL_law 579 = .ok (.if_icmp .eq 5, 3) := by decide +kernel
theorem dL_law_582 : decode cL_law 582 = .ok (.iconst 0, 1) := by decide +kernel
theorem dL_law_583 : decode cL_law 583 = .ok (.ireturn, 1) := by decide +kernel
theorem dL_law_584 : decode cL_law 584 = .ok (.iload 4, 2) := by decide +kernel
theorem dL_law_586 : decode cL_law 586 = .ok (.ifCond .lt 42, 3) := by decide +kernel
theorem dL_law_589 : decode cL_law 589 = .ok (.ldc 59, 2) := by decide +kernel
theorem dL_law_591 : decode cL_law 591 = .ok (.aload_n 1, 1) := by decide +kernel
theorem dL_law_592 : decode cL_law 592 = .ok (.iload 4, 2) := by decide +kernel
theorem dL_law_594 : decode cL_law 594 = .ok (.iconst 0, 1) := by decide +kernel
theorem dL_law_595 : decode cL_law 595 = .ok (.iconst 0, 1) := by decide +kernel
theorem dL_law_596 : decode cL_law 596 = .ok (.invokevirtual 66, 3) := by decide +kernel
theorem dL_law_599 : decode cL_law 599 = .ok (.imul, 1) := by decide +kernel
theorem dL_law_600 : decode cL_law 600 = .ok (.bipush 10, 2) := by decide +kernel
theorem dL_law_602 : decode cL_law 602 = .ok (.aload_n 1, 1) := by decide +kernel
theorem dL_law_603 : decode cL_law 603 = .ok (.iload 4, 2) := by decide +kernel
theorem dL_law_605 : decode cL_law 605 = .ok (.iconst 0, 1) := by decide +kernel
theorem dL_law_606 : decode cL_law 606 = .ok (.iconst 1, 1) := by decide +kernel
theorem dL_law_607 : decode cL_law 607 = .ok (.invokevirtual 66, 3) := by decide +kernel
theorem dL_law_610 : decode cL_law 610 = .ok (.imul, 1) := by decide +kernel
theorem dL_law_611 : decode cL_law 611 = .ok (.iadd, 1) := by decide +kernel
theorem dL_law_612 : decode cL_law 612 = .ok (.aload_n 1, 1) := by decide +kernel
theorem dL_law_613 : decode cL_law 613 = .ok (.iload 4, 2) := by decide +kernel
theorem dL_law_615 : decode cL_law 615 = .ok (.iconst 0, 1) := by decide +kernel
theorem dL_law_616 : decode cL_law 616 = .ok (.iconst 2, 1) := by decide +kernel
theorem dL_law_617 : decode cL_law 617 = .ok (.invokevirtual 66, 3) := by decide +kernel
theorem dL_law_620 : decode cL_law 620 = .ok (.iadd, 1) := by decide +kernel
theorem dL_law_621 : decode cL_law 621 = .ok (.iload 5, 2) := by decide +kernel
theorem dL_law_623 : decode cL_law 623 = .ok (.if_icmp .eq 5, 3) := by decide +kernel
theorem dL_law_626 : decode cL_law 626 = .ok (.iconst 0, 1) := by decide +kernel
theorem dL_law_627 : decode cL_law 627 = .ok (.ireturn, 1) := by decide +kernel
theorem dL_law_628 : decode cL_law 628 = .ok (.aload_n 1, 1) := by decide +kernel
theorem dL_law_629 : decode cL_law 629 = .ok (.invokevirtual 69, 3) := by decide +kernel
theorem dL_law_632 : decode cL_law 632 = .ok (.pop, 1) := by decide +kernel
theorem dL_law_633 : decode cL_law 633 = .ok (.iinc 6 1, 3) := by decide +kernel
theorem dL_law_636 : decode cL_law 636 = .ok (.goto (-587), 3) := by decide +kernel
theorem dL_law_639 : decode cL_law 639 = .ok (.iconst 0, 1) := by decide +kernel
theorem dL_law_640 : decode cL_law 640 = .ok (.istore 6, 2) := by decide +kernel
theorem dL_law_642 : decode cL_law 642 = .ok (.iload 6, 2) := by decide +kernel
theorem dL_law_644 : decode cL_law 644 = .ok (.iload_n 2, 1) := by decide +kernel
theorem dL_law_645 : decode cL_law 645 = .ok (.if_icmp .ge 33, 3) := by decide +kernel
theorem dL_law_648 : decode cL_law 648 = .ok (.aload_n 1, 1) := by decide +kernel
theorem dL_law_649 : decode cL_law 649 = .ok (.iload 6, 2) := by decide +kernel
theorem dL_law_651 : decode cL_law 651 = .ok (.invokevirtual 72, 3) := by decide +kernel
theorem dL_law_654 : decode cL_law 654 = .ok (.dconst 0, 1) := by decide +kernel
theorem dL_law_655 : decode cL_law 655 = .ok (.dcmp .g, 1) := by decide +kernel
theorem dL_law_656 : decode cL_law 656 = .ok (.ifCond .lt 14, 3) := by decide +kernel
theorem dL_law_659 : decode cL_law 659 = .ok (.aload_n 1, 1) := by decide +kernel
theorem dL_law_660 : decode cL_law 660 = .ok (.iload 6, 2) := by decide +kernel
theorem dL_law_662 : decode cL_law 662 = .ok (.invokevirtual 72, 3) := by decide +kernel
theorem dL_law_665 : decode cL_law 665 = .ok (.dconst 1, 1) := by decide +kernel
theorem dL_law_666 : decode cL_law 666 = .ok (.dcmp .l, 1) := by decide +kernel
theorem dL_law_667 : decode cL_law 667 = .ok (.ifCond .le 5, 3) := by decide +kernel
theorem dL_law_670 : decode cL_law 670 = .ok (.iconst 0, 1) := by decide +kernel
theorem dL_law_671 : decode cL_law 671 = .ok (.ireturn, 1) := by decide +kernel
theorem dL_law_672 : decode cL_law 672 = .ok (.iinc 6 1, 3) := by decide +kernel
theorem dL_law_675 : decode cL_law 675 = .ok (.goto (-33), 3) := by decide +kernel
theorem dL_law_678 : decode cL_law 678 = .ok (.aload_n 1, 1) := by decide +kernel
theorem dL_law_679 : decode cL_law 679 = .ok (.invokevirtual 76, 3) := by decide +kernel
theorem dL_law_682 : decode cL_law 682 = .ok (.bipush 18, 2) := by decide +kernel
theorem dL_law_684 : decode cL_law 684 = .ok (.if_icmp .ne 7, 3) := by decide +kernel
theorem dL_law_687 : decode cL_law 687 = .ok (.iconst 1, 1) := by decide +kernel
theorem dL_law_688 : decode cL_law 688 = .ok (.goto 4, 3) := by decide +kernel
theorem dL_law_691 : decode cL_law 691 = .ok (.iconst 0, 1) := by decide +kernel
theorem dL_law_692 : decode cL_law 692 = .ok (.ireturn, 1) := by decide +kernel
end
section
/-! own rows: numbers, branches in source form, arrays by natural places, worlds put back -/
def mx (x y : Int32) : Int32 := if x < y then y else x
def mn (x y : Int32) : Int32 := if y < x then y else x
theorem mz_nlt {x y : Int32} : y ≤ x ↔ ¬ x < y := by
  rw [Int32.le_iff_toInt_le, Int32.lt_iff_toInt_lt]; omega
theorem mz_nN {a b : Nat} (ha : a < 2 ^ 31) (hb : b < 2 ^ 31) : nI a < nI b ↔ a < b := nI_ltI ha hb
theorem mz_cl {i : Int32} {k : Nat} (hi : i = nI k) (hk : k < 2 ^ 31) : i.toNatClampNeg = k := by rw [hi]; exact nI_clamp hk
/-- a method of a class with natives of its own, itself none of them: its body's walk gives its contract (as the kit's row for plainly named classes does) -/
theorem mz_ofWF {l : Launch} {y : MethodName} {ws ws' : List Cond} {rm : Room} {Pc : Array Value → State → Prop} {Qc : Array Value → State → Outcome → State → Prop} {mc ms : Nat} {free : Addr → Prop} {cc : ByteArray} {maxL : Nat} {ret : Option FieldType} (hy : plainFor y = true) (hw : ws = Cond.code y cc maxL ret :: ws')
    (body : ∀ p e s m args below meth c s₁, BodyLoose p l y (headSpec ws rm) cc maxL ret e s m args below meth c s₁ → c.maxLocals = maxL → Pc args s → W p l e (headSpec ws rm).room s m args below meth c s.heap [] 0 0 (MQ below Qc args s mc ms free) (entryFrame m args maxL)) : Met l y ws rm Pc Qc mc ms free := by
  refine MetFree.of_bodySF (code := cc) (maxLocals := maxL) (ret := ret) hy (fun args s m h hn => ?_) (fun p e s m args below meth c s₁ B hml hP _ => ?_)
  · obtain ⟨meth, c, h1, h2, h3, h4, h5, h6, -, -⟩ := Cond.code_spec hn (atoms_spec (ws := ws) h _ (by rw [hw]; exact List.mem_cons_self))
    exact ⟨meth, c, h1, h2, h3, h4, h5, h6⟩
  · obtain ⟨t, a1, o, b1, b2, b3⟩ := body p e s m args below meth c s₁ B hml hP s₁ (by rw [B.state]; rfl) (Stand.of_body B)
    exact ⟨t, o, a1, b1, b2, ⟨b3.1, b3.2⟩⟩
section MZ
variable {p : Program} {l : Launch} {e : Env} {R : Room} {s : State} {m : MethodId} {args : Array Value} {below : List Frame} {meth : Method} {c : Code} {H : Heap} {locs : List Loc} {cells slots : Nat} {Q : State → Prop}
variable {cc : ByteArray} {pc : Nat} {ls : Array Slot} {rest : List Value} {D : va_G} {cl : List vw_C} {A : Nat → Prop} {a : Nat} {tys : List (ClassId × FieldType)} {ws : va_W} {H0 : Heap}
theorem mz_start {g : JFrame} (kk : ∀ (H : Heap) (locs : List Loc), H = s.heap → locs = [] → W p l e R s m args below meth c H locs cells slots Q g) : W p l e R s m args below meth c s.heap [] cells slots Q g := kk _ _ rfl rfl
theorem mz_fold {x y : Int32} (h : x = y) (k : W p l e R s m args below meth c H locs cells slots Q (F0 m pc ls (.int y :: rest))) : W p l e R s m args below meth c H locs cells slots Q (F0 m pc ls (.int x :: rest)) := by rw [h]; exact k
theorem mz_ge (hexec : p.tables.exec = Jvm.exec) (hb : c.code = cc) {x y : Int32} {off : Int} {tgt : Nat} (hdg : decode cc pc = .ok (.if_icmp .ge off, 3)) (ht : (pc : Int) + off = (tgt : Int))
    (kt : ¬ x < y → W p l e R s m args below meth c H locs cells slots Q (F0 m tgt ls rest)) (kf : x < y → W p l e R s m args below meth c H locs cells slots Q (F0 m (pc + 3) ls rest)) : W p l e R s m args below meth c H locs cells slots Q (F0 m pc ls (.int y :: .int x :: rest)) :=
  lv_icmp_ge hexec hb hdg ht (fun h => kt (mz_nlt.mp h)) (fun h => kf (Classical.byContradiction fun q => h (mz_nlt.mpr q)))
theorem mz_lt (hexec : p.tables.exec = Jvm.exec) (hb : c.code = cc) {x y : Int32} {off : Int} {tgt : Nat} (hdg : decode cc pc = .ok (.if_icmp .lt off, 3)) (ht : (pc : Int) + off = (tgt : Int))
    (kt : x < y → W p l e R s m args below meth c H locs cells slots Q (F0 m tgt ls rest)) (kf : ¬ x < y → W p l e R s m args below meth c H locs cells slots Q (F0 m (pc + 3) ls rest)) : W p l e R s m args below meth c H locs cells slots Q (F0 m pc ls (.int y :: .int x :: rest)) :=
  lv_icmp_lt hexec hb hdg ht kt kf
theorem mz_gt (hexec : p.tables.exec = Jvm.exec) (hb : c.code = cc) {x y : Int32} {off : Int} {tgt : Nat} (hdg : decode cc pc = .ok (.if_icmp .gt off, 3)) (ht : (pc : Int) + off = (tgt : Int))
    (kt : y < x → W p l e R s m args below meth c H locs cells slots Q (F0 m tgt ls rest)) (kf : ¬ y < x → W p l e R s m args below meth c H locs cells slots Q (F0 m (pc + 3) ls rest)) : W p l e R s m args below meth c H locs cells slots Q (F0 m pc ls (.int y :: .int x :: rest)) :=
  lv_icmp_gt hexec hb hdg ht kt kf
theorem mz_le (hexec : p.tables.exec = Jvm.exec) (hb : c.code = cc) {x y : Int32} {off : Int} {tgt : Nat} (hdg : decode cc pc = .ok (.if_icmp .le off, 3)) (ht : (pc : Int) + off = (tgt : Int))
    (kt : ¬ y < x → W p l e R s m args below meth c H locs cells slots Q (F0 m tgt ls rest)) (kf : y < x → W p l e R s m args below meth c H locs cells slots Q (F0 m (pc + 3) ls rest)) : W p l e R s m args below meth c H locs cells slots Q (F0 m pc ls (.int y :: .int x :: rest)) :=
  lv_icmp_le hexec hb hdg ht (fun h => kt (mz_nlt.mp h)) (fun h => kf (Classical.byContradiction fun q => h (mz_nlt.mpr q)))
theorem mz_ifge (hexec : p.tables.exec = Jvm.exec) (hb : c.code = cc) {x : Int32} {off : Int} {tgt : Nat} (hdg : decode cc pc = .ok (.ifCond .ge off, 3)) (ht : (pc : Int) + off = (tgt : Int))
    (kt : ¬ x < 0 → W p l e R s m args below meth c H locs cells slots Q (F0 m tgt ls rest)) (kf : x < 0 → W p l e R s m args below meth c H locs cells slots Q (F0 m (pc + 3) ls rest)) : W p l e R s m args below meth c H locs cells slots Q (F0 m pc ls (.int x :: rest)) :=
  lv_if_ge hexec hb hdg ht (fun h => kt (mz_nlt.mp h)) (fun h => kf (Classical.byContradiction fun q => h (mz_nlt.mpr q)))
theorem mz_ifle (hexec : p.tables.exec = Jvm.exec) (hb : c.code = cc) {x : Int32} {off : Int} {tgt : Nat} (hdg : decode cc pc = .ok (.ifCond .le off, 3)) (ht : (pc : Int) + off = (tgt : Int))
    (kt : ¬ 0 < x → W p l e R s m args below meth c H locs cells slots Q (F0 m tgt ls rest)) (kf : 0 < x → W p l e R s m args below meth c H locs cells slots Q (F0 m (pc + 3) ls rest)) : W p l e R s m args below meth c H locs cells slots Q (F0 m pc ls (.int x :: rest)) :=
  lv_if_le hexec hb hdg ht (fun h => kt (mz_nlt.mp h)) (fun h => kf (Classical.byContradiction fun q => h (mz_nlt.mpr q)))
/-- comparisons of small naturals -/
theorem mz_geN (hexec : p.tables.exec = Jvm.exec) (hb : c.code = cc) (x y : Nat) {off : Int} {tgt : Nat} (hdg : decode cc pc = .ok (.if_icmp .ge off, 3)) (ht : (pc : Int) + off = (tgt : Int)) (hx : x < 2147483648) (hy : y < 2147483648)
    (kt : y ≤ x → W p l e R s m args below meth c H locs cells slots Q (F0 m tgt ls rest)) (kf : x < y → W p l e R s m args below meth c H locs cells slots Q (F0 m (pc + 3) ls rest)) : W p l e R s m args below meth c H locs cells slots Q (F0 m pc ls (.int (nI y) :: .int (nI x) :: rest)) :=
  mz_ge hexec hb hdg ht (fun h => kt (Nat.le_of_not_lt fun q => h ((nI_ltI hx hy).mpr q))) (fun h => kf ((nI_ltI hx hy).mp h))
theorem mz_ltN (hexec : p.tables.exec = Jvm.exec) (hb : c.code = cc) (x y : Nat) {off : Int} {tgt : Nat} (hdg : decode cc pc = .ok (.if_icmp .lt off, 3)) (ht : (pc : Int) + off = (tgt : Int)) (hx : x < 2147483648) (hy : y < 2147483648)
    (kt : x < y → W p l e R s m args below meth c H locs cells slots Q (F0 m tgt ls rest)) (kf : y ≤ x → W p l e R s m args below meth c H locs cells slots Q (F0 m (pc + 3) ls rest)) : W p l e R s m args below meth c H locs cells slots Q (F0 m pc ls (.int (nI y) :: .int (nI x) :: rest)) :=
  mz_lt hexec hb hdg ht (fun h => kt ((nI_ltI hx hy).mp h)) (fun h => kf (Nat.le_of_not_lt fun q => h ((nI_ltI hx hy).mpr q)))
theorem mz_gtN (hexec : p.tables.exec = Jvm.exec) (hb : c.code = cc) (x y : Nat) {off : Int} {tgt : Nat} (hdg : decode cc pc = .ok (.if_icmp .gt off, 3)) (ht : (pc : Int) + off = (tgt : Int)) (hx : x < 2147483648) (hy : y < 2147483648)
    (kt : y < x → W p l e R s m args below meth c H locs cells slots Q (F0 m tgt ls rest)) (kf : x ≤ y → W p l e R s m args below meth c H locs cells slots Q (F0 m (pc + 3) ls rest)) : W p l e R s m args below meth c H locs cells slots Q (F0 m pc ls (.int (nI y) :: .int (nI x) :: rest)) :=
  mz_gt hexec hb hdg ht (fun h => kt ((nI_ltI hy hx).mp h)) (fun h => kf (Nat.le_of_not_lt fun q => h ((nI_ltI hy hx).mpr q)))
theorem mz_leN (hexec : p.tables.exec = Jvm.exec) (hb : c.code = cc) (x y : Nat) {off : Int} {tgt : Nat} (hdg : decode cc pc = .ok (.if_icmp .le off, 3)) (ht : (pc : Int) + off = (tgt : Int)) (hx : x < 2147483648) (hy : y < 2147483648)
    (kt : x ≤ y → W p l e R s m args below meth c H locs cells slots Q (F0 m tgt ls rest)) (kf : y < x → W p l e R s m args below meth c H locs cells slots Q (F0 m (pc + 3) ls rest)) : W p l e R s m args below meth c H locs cells slots Q (F0 m pc ls (.int (nI y) :: .int (nI x) :: rest)) :=
  mz_le hexec hb hdg ht (fun h => kt (Nat.le_of_not_lt fun q => h ((nI_ltI hy hx).mpr q))) (fun h => kf ((nI_ltI hy hx).mp h))
theorem mz_eqN (hexec : p.tables.exec = Jvm.exec) (hb : c.code = cc) (x y : Nat) {off : Int} {tgt : Nat} (hdg : decode cc pc = .ok (.if_icmp .eq off, 3)) (ht : (pc : Int) + off = (tgt : Int)) (hx : x < 2147483648) (hy : y < 2147483648)
    (kt : x = y → W p l e R s m args below meth c H locs cells slots Q (F0 m tgt ls rest)) (kf : ¬ x = y → W p l e R s m args below meth c H locs cells slots Q (F0 m (pc + 3) ls rest)) : W p l e R s m args below meth c H locs cells slots Q (F0 m pc ls (.int (nI y) :: .int (nI x) :: rest)) :=
  lv_icmp_eq hexec hb hdg ht (fun h => kt ((nI_eq hx hy).mp h)) (fun h => kf (fun q => h ((nI_eq hx hy).mpr q)))
theorem mz_neN (hexec : p.tables.exec = Jvm.exec) (hb : c.code = cc) (x y : Nat) {off : Int} {tgt : Nat} (hdg : decode cc pc = .ok (.if_icmp .ne off, 3)) (ht : (pc : Int) + off = (tgt : Int)) (hx : x < 2147483648) (hy : y < 2147483648)
    (kt : ¬ x = y → W p l e R s m args below meth c H locs cells slots Q (F0 m tgt ls rest)) (kf : x = y → W p l e R s m args below meth c H locs cells slots Q (F0 m (pc + 3) ls rest)) : W p l e R s m args below meth c H locs cells slots Q (F0 m pc ls (.int (nI y) :: .int (nI x) :: rest)) :=
  lv_icmp_ne hexec hb hdg ht (fun h => kt (fun q => h ((nI_eq hx hy).mpr q))) (fun h => kf ((nI_eq hx hy).mp h))
theorem mz_ifeqN (hexec : p.tables.exec = Jvm.exec) (hb : c.code = cc) (x : Nat) {off : Int} {tgt : Nat} (hdg : decode cc pc = .ok (.ifCond .eq off, 3)) (ht : (pc : Int) + off = (tgt : Int)) (hx : x < 2147483648)
    (kt : x = 0 → W p l e R s m args below meth c H locs cells slots Q (F0 m tgt ls rest)) (kf : ¬ x = 0 → W p l e R s m args below meth c H locs cells slots Q (F0 m (pc + 3) ls rest)) : W p l e R s m args below meth c H locs cells slots Q (F0 m pc ls (.int (nI x) :: rest)) :=
  lv_if_eq hexec hb hdg ht (fun h => kt ((nI_eq (b := 0) hx (by decide)).mp h)) (fun h => kf (fun q => h (by rw [q]; rfl)))
theorem mz_ifneN (hexec : p.tables.exec = Jvm.exec) (hb : c.code = cc) (x : Nat) {off : Int} {tgt : Nat} (hdg : decode cc pc = .ok (.ifCond .ne off, 3)) (ht : (pc : Int) + off = (tgt : Int)) (hx : x < 2147483648)
    (kt : ¬ x = 0 → W p l e R s m args below meth c H locs cells slots Q (F0 m tgt ls rest)) (kf : x = 0 → W p l e R s m args below meth c H locs cells slots Q (F0 m (pc + 3) ls rest)) : W p l e R s m args below meth c H locs cells slots Q (F0 m pc ls (.int (nI x) :: rest)) :=
  lv_if_ne hexec hb hdg ht (fun h => kt (fun q => h (by rw [q]; rfl))) (fun h => kf ((nI_eq (b := 0) hx (by decide)).mp h))
theorem mz_ifleN (hexec : p.tables.exec = Jvm.exec) (hb : c.code = cc) (x : Nat) {off : Int} {tgt : Nat} (hdg : decode cc pc = .ok (.ifCond .le off, 3)) (ht : (pc : Int) + off = (tgt : Int)) (hx : x < 2147483648)
    (kt : x = 0 → W p l e R s m args below meth c H locs cells slots Q (F0 m tgt ls rest)) (kf : 0 < x → W p l e R s m args below meth c H locs cells slots Q (F0 m (pc + 3) ls rest)) : W p l e R s m args below meth c H locs cells slots Q (F0 m pc ls (.int (nI x) :: rest)) :=
  mz_ifle hexec hb hdg ht (fun h => kt (Classical.byContradiction fun q => h ((nI_ltI (a := 0) (by decide) hx).mpr (by omega)))) (fun h => kf ((nI_ltI (a := 0) (by decide) hx).mp h))
theorem mz_ifgtN (hexec : p.tables.exec = Jvm.exec) (hb : c.code = cc) (x : Nat) {off : Int} {tgt : Nat} (hdg : decode cc pc = .ok (.ifCond .gt off, 3)) (ht : (pc : Int) + off = (tgt : Int)) (hx : x < 2147483648)
    (kt : 0 < x → W p l e R s m args below meth c H locs cells slots Q (F0 m tgt ls rest)) (kf : x = 0 → W p l e R s m args below meth c H locs cells slots Q (F0 m (pc + 3) ls rest)) : W p l e R s m args below meth c H locs cells slots Q (F0 m pc ls (.int (nI x) :: rest)) :=
  lv_if_gt hexec hb hdg ht (fun h => kt ((nI_ltI (a := 0) (by decide) hx).mp h)) (fun h => kf (Classical.byContradiction fun q => h ((nI_ltI (a := 0) (by decide) hx).mpr (by omega))))
/-- arithmetic of naturals -/
theorem mz_addN (hexec : p.tables.exec = Jvm.exec) (hb : c.code = cc) (x y : Nat) (hdg : decode cc pc = .ok (.iadd, 1))
    (k : W p l e R s m args below meth c H locs cells slots Q (F0 m (pc + 1) ls (.int (nI (x + y)) :: rest))) : W p l e R s m args below meth c H locs cells slots Q (F0 m pc ls (.int (nI y) :: .int (nI x) :: rest)) :=
  lv_iadd hexec hb hdg (by rw [nI_add]; exact k)
theorem mz_mulN (hexec : p.tables.exec = Jvm.exec) (hb : c.code = cc) (x y : Nat) (hdg : decode cc pc = .ok (.imul, 1))
    (k : W p l e R s m args below meth c H locs cells slots Q (F0 m (pc + 1) ls (.int (nI (x * y)) :: rest))) : W p l e R s m args below meth c H locs cells slots Q (F0 m pc ls (.int (nI y) :: .int (nI x) :: rest)) :=
  lv_imul hexec hb hdg (by rw [pk_mul]; exact k)
theorem mz_subN (hexec : p.tables.exec = Jvm.exec) (hb : c.code = cc) (x y : Nat) (h : y ≤ x) (hdg : decode cc pc = .ok (.isub, 1))
    (k : W p l e R s m args below meth c H locs cells slots Q (F0 m (pc + 1) ls (.int (nI (x - y)) :: rest))) : W p l e R s m args below meth c H locs cells slots Q (F0 m pc ls (.int (nI y) :: .int (nI x) :: rest)) :=
  lv_isub hexec hb hdg (by rw [pk_sub h]; exact k)
theorem mz_divN (hexec : p.tables.exec = Jvm.exec) (hb : c.code = cc) (x y : Nat) (hx : x < 2147483648) (h0 : 0 < y) (hy : y < 2147483648) (hdg : decode cc pc = .ok (.idiv, 1))
    (k : W p l e R s m args below meth c H locs cells slots Q (F0 m (pc + 1) ls (.int (nI (x / y)) :: rest))) : W p l e R s m args below meth c H locs cells slots Q (F0 m pc ls (.int (nI y) :: .int (nI x) :: rest)) :=
  lv_idiv hexec hb hdg (nI_ne0 h0 hy) (by rw [pk_div hx h0 hy]; exact k)
theorem mz_remN (hexec : p.tables.exec = Jvm.exec) (hb : c.code = cc) (x y : Nat) (hx : x < 2147483648) (h0 : 0 < y) (hy : y < 2147483648) (hdg : decode cc pc = .ok (.irem, 1))
    (k : W p l e R s m args below meth c H locs cells slots Q (F0 m (pc + 1) ls (.int (nI (x % y)) :: rest))) : W p l e R s m args below meth c H locs cells slots Q (F0 m pc ls (.int (nI y) :: .int (nI x) :: rest)) :=
  lv_irem hexec hb hdg (nI_ne0 h0 hy) (by rw [pk_rem hx h0 hy]; exact k)
theorem mz_iinc (hexec : p.tables.exec = Jvm.exec) (hb : c.code = cc) {i nL k : Nat} (x n : Nat) {lv lv' : List (Nat × Value)} (hdg : decode cc pc = .ok (.iinc i (n : Int), 3)) (h : lv_has ls nL lv) (hk : lv[k]? = some (i, .int (nI x))) (hn : i < nL) (hl : (i, Value.int (nI (x + n))) :: lv.filter (fun q => !(q.1 == i) && !(q.1 + 1 == i && q.2.category == 2)) = lv')
    (kk : ∀ ls' : Array Slot, lv_has ls' nL lv' → W p l e R s m args below meth c H locs cells slots Q (F0 m (pc + 3) ls' rest)) : W p l e R s m args below meth c H locs cells slots Q (F0 m pc ls rest) :=
  lv_iinc (v := nI (x + n)) hexec hb hdg h hk (by rw [← nI_add]; rfl) hn hl kk
/-- arrays by natural places -/
theorem mz_ild (hexec : p.tables.exec = Jvm.exec) (hb : c.code = cc) (hK : va_K D cl tys s) (hP : va_P D cl ws H) (q0 t0 : Nat) {cA : ClassId} {n : Nat} {f : Nat → Int32} (ha : ws[q0]? = some (a, .inl (cA, n, .inl f))) (ht : tys[t0]? = some (cA, .int)) (i : Nat) (hi : i < n) (hn : n < 2147483648) (hdg : decode cc pc = .ok (.iaload, 1))
    (kk : W p l e R s m args below meth c H locs cells slots Q (F0 m (pc + 1) ls (.int (f i) :: rest))) : W p l e R s m args below meth c H locs cells slots Q (F0 m pc ls (.int (nI i) :: .ref a :: rest)) :=
  va_iald hexec hb hK hP q0 t0 ha ht (vp_in_nI hi hn) hdg (by rw [nI_clamp (Nat.lt_trans hi hn)]; exact kk)
theorem mz_zld (hexec : p.tables.exec = Jvm.exec) (hb : c.code = cc) (hK : va_K D cl tys s) (hP : va_P D cl ws H) (q0 t0 : Nat) {cA : ClassId} {n : Nat} {f : Nat → Int32} (ha : ws[q0]? = some (a, .inl (cA, n, .inl f))) (ht : tys[t0]? = some (cA, .boolean)) (i : Nat) (hi : i < n) (hn : n < 2147483648) (hdg : decode cc pc = .ok (.baload, 1))
    (kk : W p l e R s m args below meth c H locs cells slots Q (F0 m (pc + 1) ls (.int (f i) :: rest))) : W p l e R s m args below meth c H locs cells slots Q (F0 m pc ls (.int (nI i) :: .ref a :: rest)) :=
  va_zald hexec hb hK hP q0 t0 ha ht (vp_in_nI hi hn) hdg (by rw [nI_clamp (Nat.lt_trans hi hn)]; exact kk)
theorem mz_ist (hexec : p.tables.exec = Jvm.exec) (hb : c.code = cc) (hK : va_K D cl tys s) (hP : va_P D cl ws H) (hD : va_D A ws) (hS : va_S A H0 H locs) (q0 t0 : Nat) {cA : ClassId} {n : Nat} {f : Nat → Int32} (ha : ws[q0]? = some (a, .inl (cA, n, .inl f))) (ht : tys[t0]? = some (cA, .int)) (i : Nat) (hi : i < n) (hn : n < 2147483648) {x : Int32} (hdg : decode cc pc = .ok (.iastore, 1))
    (kk : ∀ (H1 : Heap) (locs1 : List Loc), va_P D cl (ws.set q0 (a, .inl (cA, n, .inl (upd f i x)))) H1 → va_D A (ws.set q0 (a, .inl (cA, n, .inl (upd f i x)))) → va_S A H0 H1 locs1 → W p l e R s m args below meth c H1 locs1 cells slots Q (F0 m (pc + 1) ls rest)) : W p l e R s m args below meth c H locs cells slots Q (F0 m pc ls (.int x :: .int (nI i) :: .ref a :: rest)) :=
  va_iast hexec hb hK hP hD hS q0 t0 ha ht (vp_in_nI hi hn) hdg (by rw [nI_clamp (Nat.lt_trans hi hn)]; exact kk)
theorem mz_zst (hexec : p.tables.exec = Jvm.exec) (hb : c.code = cc) (hK : va_K D cl tys s) (hP : va_P D cl ws H) (hD : va_D A ws) (hS : va_S A H0 H locs) (q0 t0 : Nat) {cA : ClassId} {n : Nat} {f : Nat → Int32} (ha : ws[q0]? = some (a, .inl (cA, n, .inl f))) (ht : tys[t0]? = some (cA, .boolean)) (i : Nat) (hi : i < n) (hn : n < 2147483648) {x : Int32} (hx : vp_nar .boolean x = x) (hdg : decode cc pc = .ok (.bastore, 1))
    (kk : ∀ (H1 : Heap) (locs1 : List Loc), va_P D cl (ws.set q0 (a, .inl (cA, n, .inl (upd f i x)))) H1 → va_D A (ws.set q0 (a, .inl (cA, n, .inl (upd f i x)))) → va_S A H0 H1 locs1 → W p l e R s m args below meth c H1 locs1 cells slots Q (F0 m (pc + 1) ls rest)) : W p l e R s m args below meth c H locs cells slots Q (F0 m pc ls (.int x :: .int (nI i) :: .ref a :: rest)) :=
  va_zast hexec hb hK hP hD hS q0 t0 ha ht (vp_in_nI hi hn) hdg (by rw [nI_clamp (Nat.lt_trans hi hn), hx]; exact kk)
theorem mz_ald (hexec : p.tables.exec = Jvm.exec) (hb : c.code = cc) (hK : va_K D cl tys s) (hP : va_P D cl ws H) (q0 t0 : Nat) {cA : ClassId} {C : String} {n : Nat} {f : Nat → Option Nat} (ha : ws[q0]? = some (a, .inl (cA, n, .inr (.inr (.inr (.inr f)))))) (ht : tys[t0]? = some (cA, .object C)) (i : Nat) (hi : i < n) (hn : n < 2147483648) {y : Nat} (hf : f i = some y) (hdg : decode cc pc = .ok (.aaload, 1))
    (kk : W p l e R s m args below meth c H locs cells slots Q (F0 m (pc + 1) ls (.ref y :: rest))) : W p l e R s m args below meth c H locs cells slots Q (F0 m pc ls (.int (nI i) :: .ref a :: rest)) :=
  va_aldq hexec hb hK hP q0 t0 ha ht (vp_in_nI hi hn) hdg (by rw [nI_clamp (Nat.lt_trans hi hn), hf]; exact kk)
/-- Math.max, Math.min by mx, mn -/
theorem mz_max (hexec : p.tables.exec = Jvm.exec) (hb : c.code = cc) (hml : c.maxLocals = ls.size) {own : String} {index : Nat} (hown : s.vm.findClass own = some m.cls) (hlink : (Cond.methodLink own index Lib.Math.max.name).before args s = true) (hstat : (Cond.static Lib.Math.max.name).before args s = true) (hini : (Cond.initialized "java/lang/Math").before args s = true) (hcode : (Cond.code Lib.Math.max.name Lib.Math.max.code 2 (some .int)).before args s = true)
    (hframes : 1 ≤ R.frames) (hlocals : (rest.map fun v => v.category).sum + 13 ≤ R.locals) (hc : cells ≤ R.cells) (hs : slots ≤ R.slots) {x y : Int32} (hdg : decode cc pc = .ok (.invokestatic index, 3))
    (kk : W p l e R s m args below meth c H locs cells slots Q (F0 m (pc + 3) ls (.int (mx x y) :: rest))) : W p l e R s m args below meth c H locs cells slots Q (F0 m pc ls (.int y :: .int x :: rest)) :=
  va_mmax hexec hb hml hown hlink hstat hini hcode hframes hlocals hc hs hdg kk
theorem mz_min (hexec : p.tables.exec = Jvm.exec) (hb : c.code = cc) (hml : c.maxLocals = ls.size) {own : String} {index : Nat} (hown : s.vm.findClass own = some m.cls) (hlink : (Cond.methodLink own index Lib.Math.min.name).before args s = true) (hstat : (Cond.static Lib.Math.min.name).before args s = true) (hini : (Cond.initialized "java/lang/Math").before args s = true) (hcode : (Cond.code Lib.Math.min.name Lib.Math.min.code 2 (some .int)).before args s = true)
    (hframes : 1 ≤ R.frames) (hlocals : (rest.map fun v => v.category).sum + 13 ≤ R.locals) (hc : cells ≤ R.cells) (hs : slots ≤ R.slots) {x y : Int32} (hdg : decode cc pc = .ok (.invokestatic index, 3))
    (kk : W p l e R s m args below meth c H locs cells slots Q (F0 m (pc + 3) ls (.int (mn x y) :: rest))) : W p l e R s m args below meth c H locs cells slots Q (F0 m pc ls (.int y :: .int x :: rest)) :=
  va_mmin hexec hb hml hown hlink hstat hini hcode hframes hlocals hc hs hdg kk
/-- System.arraycopy of ints by natural places -/
theorem mz_copy (hexec : p.tables.exec = Jvm.exec) (hb : c.code = cc) (hml : c.maxLocals = ls.size) {own : String} {index : Nat} (hown : s.vm.findClass own = some m.cls) (hlink : (Cond.methodLink own index arraycopyName).before args s = true) (hnat : (Cond.native arraycopyName).before args s = true) (hstat : (Cond.static arraycopyName).before args s = true) (hini : (Cond.initialized "java/lang/System").before args s = true)
    (hK : va_K D cl tys s) (hP : va_P D cl ws H) (hD : va_D A ws) (hS : va_S A H0 H locs) (q0 q1 t0 t1 : Nat) {a0 : Nat} {c0 c1 : ClassId} {n0 n1 : Nat} {f g : Nat → Int32} (ha0 : ws[q0]? = some (a0, .inl (c0, n0, .inl f))) (ha1 : ws[q1]? = some (a, .inl (c1, n1, .inl g))) (ht0 : tys[t0]? = some (c0, .int)) (ht1 : tys[t1]? = some (c1, .int))
    (sp dp n : Nat) (b1 : sp < 2147483648) (b2 : dp < 2147483648) (b3 : n < 2147483648) (h4 : sp + n ≤ n0) (h5 : dp + n ≤ n1)
    (hframes : 1 ≤ R.frames) (hlocals : (rest.map fun v => v.category).sum + (nativeFrameWords "java/lang/System" "arraycopy" 5 + 11) ≤ R.locals) (hdg : decode cc pc = .ok (.invokestatic index, 3))
    (kk : ∀ (H1 : Heap) (locs1 : List Loc), va_P D cl (ws.set q1 (a, .inl (c1, n1, .inl (va_cpy f g sp dp n)))) H1 → va_D A (ws.set q1 (a, .inl (c1, n1, .inl (va_cpy f g sp dp n)))) → va_S A H0 H1 locs1 → W p l e R s m args below meth c H1 locs1 cells slots Q (F0 m (pc + 3) ls rest)) : W p l e R s m args below meth c H locs cells slots Q (F0 m pc ls (.int (nI n) :: .int (nI dp) :: .ref a :: .int (nI sp) :: .ref a0 :: rest)) :=
  va_copyi hexec hb hml hown hlink hnat hstat hini hK hP hD hS q0 q1 t0 t1 ha0 ha1 ht0 ht1 rfl (nI_pos b1) (nI_pos b2) (nI_pos b3) (by rw [nI_clamp b1, nI_clamp b3]; exact h4) (by rw [nI_clamp b2, nI_clamp b3]; exact h5) (fun _ _ => rfl) hframes hlocals hdg (by rw [nI_clamp b1, nI_clamp b2, nI_clamp b3]; exact kk)
end MZ
/-- behind a call that changes nothing old -/
theorem va_P.ro {D : va_G} {cl : List vw_C} {ws : va_W} {H H1 : Heap} (h : va_P D cl ws H) (hk : ∀ q : Nat, q < H.size → ¬ (fun _ : Nat => False) q → H1[q]? = H[q]?) : va_P D cl ws H1 :=
  h.kept fun k q hq => hk q.1 ((h k q hq).lt) (fun z => z)
theorem va_P.roN {D : va_G} {cl : List vw_C} {ws : va_W} {H H1 : Heap} {A : Nat → Prop} (h : va_P D cl ws H) (hk : ∀ q : Nat, q < H.size → ¬ A q → H1[q]? = H[q]?) (hA : ∀ q : Nat, A q → H.size ≤ q) : va_P D cl ws H1 :=
  h.kept fun k q hq => hk q.1 ((h k q hq).lt) (fun z => Nat.not_lt.mpr (hA _ z) ((h k q hq).lt))
/-- the addresses decide what is apart -/
theorem va_D.same {A : Nat → Prop} {ws ws' : va_W} (h : va_D A ws) (e : ws'.map (fun q => q.1) = ws.map (fun q => q.1)) : va_D A ws' := by
  have key : ∀ (k : Nat) (q : Nat × va_E), ws'[k]? = some q → ∃ q0, ws[k]? = some q0 ∧ q0.1 = q.1 := by
    intro k q hk
    have h1 : (ws'.map (fun q => q.1))[k]? = some q.1 := by rw [List.getElem?_map, hk]; rfl
    rw [e, List.getElem?_map] at h1
    cases hw : ws[k]? with
    | none => rw [hw] at h1; cases h1
    | some q0 => rw [hw] at h1; exact ⟨q0, rfl, Option.some.inj h1⟩
  refine ⟨fun i j p q hi hj hpq => ?_, fun k q hk => ?_⟩
  · obtain ⟨p0, a1, a2⟩ := key i p hi
    obtain ⟨q0, b1, b2⟩ := key j q hj
    exact h.1 i j p0 q0 a1 b1 (by rw [a2, b2, hpq])
  · obtain ⟨q0, a1, a2⟩ := key k q hk
    rw [← a2]; exact h.2 k q0 a1
/-- behind a call on a part of the world, whose cells come back at their old addresses: the whole world, each cell either as it was or as it came back -/
theorem va_back {A0 : Nat → Prop} {D : va_G} {cl : List vw_C} {ws wc w1 ws' : va_W} {H H1 : Heap} (hP : va_P D cl ws H) (hD : va_D A0 ws) (isC : List Nat) (hC : isC.map (fun i => ws[i]?) = wc.map some)
    (hk : ∀ q : Nat, q < H.size → ¬ va_A wc H.size q → H1[q]? = H[q]?) (hP1 : va_P D cl w1 H1)
    (hs : ∀ (k : Nat) (q : Nat × va_E), ws'[k]? = some q → (k ∉ isC ∧ ws[k]? = some q) ∨ ∃ j : Nat, w1[j]? = some q)
    (he : ws'.map (fun q => q.1) = ws.map (fun q => q.1)) : va_P D cl ws' H1 ∧ va_D A0 ws' := by
  refine ⟨fun k q hq => ?_, hD.same he⟩
  rcases hs k q hq with ⟨h1, h2⟩ | ⟨j, hj⟩
  · refine (hP k q h2).kept (hk q.1 (hP k q h2).lt ?_)
    intro z
    rcases z with ⟨k2, e2, h3⟩ | z
    · have h4 : (isC.map (fun i => ws[i]?))[k2]? = some (some (q.1, e2)) := by rw [hC, List.getElem?_map, h3]; rfl
      rw [List.getElem?_map] at h4
      cases h5 : isC[k2]? with
      | none => rw [h5] at h4; cases h4
      | some i =>
        rw [h5] at h4
        have h6 : ws[i]? = some (q.1, e2) := Option.some.inj h4
        have h7 := hD.1 k i q (q.1, e2) h2 h6 rfl
        exact h1 (h7 ▸ List.mem_of_getElem? h5)
    · exact absurd (hP k q h2).lt (by omega)
  · exact hP1 j q hj
end
