section
-- ===== PART A: goes FIRST, ahead of the names: the tables' words, and 'selects' of the private methods out of them =====
/-- a private method of a class that the tables say can be made, by its rows of tables_1 -/
def lw_okq (q : MethodName × Nat) : Prop := (q.1.cls ≠ "java/lang/invoke/MethodHandle" ∧ q.1.cls ≠ "java/lang/invoke/VarHandle") ∧ Cond.instantiable q.1.cls q.2 ∈ tables_1 ∧ Cond.privateMethod q.1 ∈ tables_1 ∧ Cond.instanceMethod q.1 ∈ tables_1
theorem lw_p0 : lw_okq (⟨"EdgeWear", "sortAt", "(I)LEdgeWear$Sort;"⟩, 8) := ⟨⟨by decide +kernel, by decide +kernel⟩, List.mem_of_getElem? (i := 17) (by decide +kernel), List.mem_of_getElem? (i := 130) (by decide +kernel), List.mem_of_getElem? (i := 131) (by decide +kernel)⟩
theorem lw_p1 : lw_okq (⟨"java/lang/Throwable", "fillInStackTrace", "(I)Ljava/lang/Throwable;"⟩, 6) := ⟨⟨by decide +kernel, by decide +kernel⟩, List.mem_of_getElem? (i := 172) (by decide +kernel), List.mem_of_getElem? (i := 170) (by decide +kernel), List.mem_of_getElem? (i := 171) (by decide +kernel)⟩
theorem lw_p2 : lw_okq (⟨"EdgeWear", "toolAt", "(I)LEdgeWear$Tool;"⟩, 8) := ⟨⟨by decide +kernel, by decide +kernel⟩, List.mem_of_getElem? (i := 17) (by decide +kernel), List.mem_of_getElem? (i := 321) (by decide +kernel), List.mem_of_getElem? (i := 322) (by decide +kernel)⟩
theorem lw_p3 : lw_okq (⟨"EdgeWear", "nextSpare", "(I)I"⟩, 8) := ⟨⟨by decide +kernel, by decide +kernel⟩, List.mem_of_getElem? (i := 17) (by decide +kernel), List.mem_of_getElem? (i := 383) (by decide +kernel), List.mem_of_getElem? (i := 384) (by decide +kernel)⟩
theorem lw_p4 : lw_okq (⟨"EdgeWear", "mixed", "(II)J"⟩, 8) := ⟨⟨by decide +kernel, by decide +kernel⟩, List.mem_of_getElem? (i := 17) (by decide +kernel), List.mem_of_getElem? (i := 466) (by decide +kernel), List.mem_of_getElem? (i := 467) (by decide +kernel)⟩
theorem lw_p5 : lw_okq (⟨"EdgeWear", "isAnyDue", "(II)Z"⟩, 8) := ⟨⟨by decide +kernel, by decide +kernel⟩, List.mem_of_getElem? (i := 17) (by decide +kernel), List.mem_of_getElem? (i := 558) (by decide +kernel), List.mem_of_getElem? (i := 559) (by decide +kernel)⟩
theorem lw_p6 : lw_okq (⟨"EdgeWear", "closeDue", "(II)I"⟩, 8) := ⟨⟨by decide +kernel, by decide +kernel⟩, List.mem_of_getElem? (i := 17) (by decide +kernel), List.mem_of_getElem? (i := 566) (by decide +kernel), List.mem_of_getElem? (i := 567) (by decide +kernel)⟩
theorem lw_p7 : lw_okq (⟨"EdgeWearModel", "noTool", "(I)Z"⟩, 28) := ⟨⟨by decide +kernel, by decide +kernel⟩, List.mem_of_getElem? (i := 584) (by decide +kernel), List.mem_of_getElem? (i := 706) (by decide +kernel), List.mem_of_getElem? (i := 707) (by decide +kernel)⟩
theorem lw_p8 : lw_okq (⟨"EdgeWearModel", "isBlunt", "(I)Z"⟩, 28) := ⟨⟨by decide +kernel, by decide +kernel⟩, List.mem_of_getElem? (i := 584) (by decide +kernel), List.mem_of_getElem? (i := 711) (by decide +kernel), List.mem_of_getElem? (i := 712) (by decide +kernel)⟩
theorem lw_p9 : lw_okq (⟨"EdgeWearModel", "isSpare", "(II)Z"⟩, 28) := ⟨⟨by decide +kernel, by decide +kernel⟩, List.mem_of_getElem? (i := 584) (by decide +kernel), List.mem_of_getElem? (i := 728) (by decide +kernel), List.mem_of_getElem? (i := 729) (by decide +kernel)⟩
theorem lw_p10 : lw_okq (⟨"EdgeWearModel", "greatest", "(I)I"⟩, 28) := ⟨⟨by decide +kernel, by decide +kernel⟩, List.mem_of_getElem? (i := 584) (by decide +kernel), List.mem_of_getElem? (i := 753) (by decide +kernel), List.mem_of_getElem? (i := 754) (by decide +kernel)⟩
theorem lw_p11 : lw_okq (⟨"EdgeWearModel", "costs", "(II)J"⟩, 28) := ⟨⟨by decide +kernel, by decide +kernel⟩, List.mem_of_getElem? (i := 584) (by decide +kernel), List.mem_of_getElem? (i := 757) (by decide +kernel), List.mem_of_getElem? (i := 758) (by decide +kernel)⟩
theorem lw_p12 : lw_okq (⟨"EdgeWearModel", "brings", "(II)J"⟩, 28) := ⟨⟨by decide +kernel, by decide +kernel⟩, List.mem_of_getElem? (i := 584) (by decide +kernel), List.mem_of_getElem? (i := 761) (by decide +kernel), List.mem_of_getElem? (i := 762) (by decide +kernel)⟩
theorem lw_p13 : lw_okq (⟨"EdgeWearModel", "fired", "(I)I"⟩, 28) := ⟨⟨by decide +kernel, by decide +kernel⟩, List.mem_of_getElem? (i := 584) (by decide +kernel), List.mem_of_getElem? (i := 787) (by decide +kernel), List.mem_of_getElem? (i := 788) (by decide +kernel)⟩
theorem lw_p14 : lw_okq (⟨"EdgeWearModel", "reading", "(II)I"⟩, 28) := ⟨⟨by decide +kernel, by decide +kernel⟩, List.mem_of_getElem? (i := 584) (by decide +kernel), List.mem_of_getElem? (i := 791) (by decide +kernel), List.mem_of_getElem? (i := 792) (by decide +kernel)⟩
theorem lw_p15 : lw_okq (⟨"EdgeWearModel", "isDue", "(III)Z"⟩, 28) := ⟨⟨by decide +kernel, by decide +kernel⟩, List.mem_of_getElem? (i := 584) (by decide +kernel), List.mem_of_getElem? (i := 807) (by decide +kernel), List.mem_of_getElem? (i := 808) (by decide +kernel)⟩
def lw_privs_1 : List (MethodName × Nat) := [(⟨"EdgeWear", "sortAt", "(I)LEdgeWear$Sort;"⟩, 8), (⟨"java/lang/Throwable", "fillInStackTrace", "(I)Ljava/lang/Throwable;"⟩, 6), (⟨"EdgeWear", "toolAt", "(I)LEdgeWear$Tool;"⟩, 8), (⟨"EdgeWear", "nextSpare", "(I)I"⟩, 8), (⟨"EdgeWear", "mixed", "(II)J"⟩, 8), (⟨"EdgeWear", "isAnyDue", "(II)Z"⟩, 8), (⟨"EdgeWear", "closeDue", "(II)I"⟩, 8), (⟨"EdgeWearModel", "noTool", "(I)Z"⟩, 28), (⟨"EdgeWearModel", "isBlunt", "(I)Z"⟩, 28), (⟨"EdgeWearModel", "isSpare", "(II)Z"⟩, 28), (⟨"EdgeWearModel", "greatest", "(I)I"⟩, 28), (⟨"EdgeWearModel", "costs", "(II)J"⟩, 28), (⟨"EdgeWearModel", "brings", "(II)J"⟩, 28), (⟨"EdgeWearModel", "fired", "(I)I"⟩, 28), (⟨"EdgeWearModel", "reading", "(II)I"⟩, 28), (⟨"EdgeWearModel", "isDue", "(III)Z"⟩, 28)]
theorem lw_r1 : ∀ q ∈ lw_privs_1, lw_okq q := List.forall_mem_cons.mpr ⟨lw_p0, List.forall_mem_cons.mpr ⟨lw_p1, List.forall_mem_cons.mpr ⟨lw_p2, List.forall_mem_cons.mpr ⟨lw_p3, List.forall_mem_cons.mpr ⟨lw_p4, List.forall_mem_cons.mpr ⟨lw_p5, List.forall_mem_cons.mpr ⟨lw_p6, List.forall_mem_cons.mpr ⟨lw_p7, List.forall_mem_cons.mpr ⟨lw_p8, List.forall_mem_cons.mpr ⟨lw_p9, List.forall_mem_cons.mpr ⟨lw_p10, List.forall_mem_cons.mpr ⟨lw_p11, List.forall_mem_cons.mpr ⟨lw_p12, List.forall_mem_cons.mpr ⟨lw_p13, List.forall_mem_cons.mpr ⟨lw_p14, List.forall_mem_cons.mpr ⟨lw_p15, fun _ h => absurd h List.not_mem_nil⟩⟩⟩⟩⟩⟩⟩⟩⟩⟩⟩⟩⟩⟩⟩⟩
def lw_privs : List (MethodName × Nat) := lw_privs_1
def lw_tbl : List Cond := k2_sels lw_privs ++ tables_1
theorem lw_privs_ok : ∀ q ∈ lw_privs, lw_okq q := lw_r1

/-! ===== BEGIN words of one list among another's, by their places ===== -/
theorem goodIn_r {big : List Cond} (ws : List Cond) (ps : List Nat) (hp : ws = ps.filterMap (fun i => big[i]?)) (h : ws.all goodWord = true) : GoodIn big ws := by
  intro w hw
  have h1 := List.all_eq_true.mp h w hw
  rw [hp] at hw
  obtain ⟨i, -, hi⟩ := List.mem_filterMap.mp hw
  have hm : w ∈ big := by first | exact List.mem_of_getElem? hi | exact List.getElem?_mem hi
  exact ⟨hm, good_of_word h1⟩
theorem goodIn_app {big a b : List Cond} (ha : GoodIn big a) (hb : GoodIn big b) : GoodIn big (a ++ b) := fun w h => (List.mem_append.mp h).elim (ha w) (hb w)
theorem goodIn_ca {big a b : List Cond} {c : Cond} (ha : GoodIn big (c :: a)) (hb : GoodIn big b) : GoodIn big (c :: (a ++ b)) := fun w h => (List.mem_cons.mp h).elim (fun e => ha w (List.mem_cons.mpr (Or.inl e))) (fun h => (List.mem_append.mp h).elim (fun h => ha w (List.mem_cons.mpr (Or.inr h))) (hb w))
theorem goodIn_sub {big ws : List Cond} (hm : ∀ w ∈ ws, w ∈ big) (h : ws.all goodWord = true) : GoodIn big ws := fun w hw => ⟨hm w hw, good_of_word (List.all_eq_true.mp h w hw)⟩
/-! ===== END ===== -/

/-! ===== BEGIN exceptions that leave a method, and their catching by the caller (launches without stack traces) ===== -/
section VXA
/-! The laws vx_back, vx_callV, vx_callS, vx_callSW, vx_throw0, vx_throwS follow proofs of the library, with one case more: JvmDerived/Free/Laws.lean (Back.of_free), Shelf42/LK1.lean (callV, callS), Shelf/KitTraced.lean (throwNew0V, throwNewS). -/
/-- where a method has thrown q: the class by its name, the cell, what was written, the world -/
def vx_T (XC : String → State → State → Prop) (st : State) (q : Addr) (t : State) (mc ms : Nat) (free : Addr → Prop) : Prop :=
  ∃ (E : String) (ce : Cell) (L : List Loc), XC E st t ∧ t.heap[q]? = some ce ∧ ce.vm = .none ∧ st.vm.findClass E = some ce.cls ∧ st.WarmedH t.vm ∧ st.sameButNew ({ t with vm := st.vm } : State) L mc ms ∧ ∀ z ∈ L, free z.base
def vx_Q (Qc : Array Value → State → Outcome → State → Prop) (XC : String → State → State → Prop) (mc ms : Nat) (free : Addr → Prop) : Array Value → State → Outcome → State → Prop := fun a st o t =>
  (Qc a st o t ∧ ∃ L, FrameEnd st o t L mc ms ∧ ∀ q ∈ L, free q.base) ∨ ∃ q, o = .threw q ∧ vx_T XC st q t mc ms free
/-- a callee that returns or throws -/
def vx_Met (l : Launch) (y : MethodName) (ws : List Cond) (rm : Room) (Pc : Array Value → State → Prop) (Qc : Array Value → State → Outcome → State → Prop) (XC : String → State → State → Prop) (mc ms : Nat) (free : Addr → Prop) : Prop :=
  MetFree l y (headSpec ws rm) Pc (fun _ _ _ _ _ => True) (vx_Q Qc XC mc ms free)
def vx_Post (XC : String → State → State → Prop) (mc ms : Nat) (free : Addr → Prop) : Pt → Array Value → Addr → Pt → Prop := fun A a q B =>
  ∃ (g : JFrame) (mk : MethodId) (t : State) (L : List Loc) (E : String) (ce : Cell), B.U.heap = t.heap ∧ B.U.vm = t.vm ∧ XC E (A.U.calling g mk a) t ∧ t.heap[q]? = some ce ∧ ce.vm = .none ∧ A.U.vm.findClass E = some ce.cls ∧ B.locs = A.locs ++ L ∧ (∀ z ∈ L, free z.base) ∧ B.cells = A.cells + mc ∧ B.slots = A.slots + ms
def vx_Back (l : Launch) (R : Room) (p : Program) (e : Env) (below : List Frame) (s : State) (sargs : Array Value) (y : MethodName) (len W9 : Nat)
    (Pre : Pt → Array Value → Prop) (Post : Pt → Array Value → Option Value → Pt → Prop) (PostX : Pt → Array Value → Addr → Pt → Prop) : Prop :=
  ∀ (m : MethodId) (meth : Method) (c : Code) (A : Pt) (g : JFrame) (ig : Instr) (mk : MethodId) (a : Array Value),
    Stand p l e R s m sargs below meth c A.U A.locs A.cells A.slots → g.method = m → g.locals.size = c.maxLocals → decode c.code g.pc = .ok (ig, len) →
    2 * g.monitorRoom + (g.stack.map fun v => v.category).sum ≤ W9 → A.U.methodNamed? y = some mk → Pre A a →
    (∃ (v : Option Value) (B : Pt), Stand p l e R s m sargs below meth c B.U B.locs B.cells B.slots ∧ Post A a v B ∧
      Steps p.tables e below (doInvoke e (A.U.setTop g) [] mk a).1 (B.U.setTop { g with pc := g.pc + len, stack := v.toList ++ g.stack })) ∨
    (∃ (q : Addr) (B : Pt), Stand p l e R s m sargs below meth c B.U B.locs B.cells B.slots ∧ PostX A a q B ∧
      Steps p.tables e below (doInvoke e (A.U.setTop g) [] mk a).1 ((B.U.setTop g).pushFrame (.throwing q)))
section Payer
variable {l : Launch} {R : Room} {p : Program} {e : Env} {below : List Frame} {s : State} {sargs : Array Value} {y : MethodName} {len W9 : Nat}
theorem vx_back {ws : List Cond} {rm : Room} {Pc : Array Value → State → Prop} {Qc : Array Value → State → Outcome → State → Prop} {XC : String → State → State → Prop} {mc ms : Nat} {free : Addr → Prop} {bytes : ByteArray} {maxL : Nat} {ret : Option FieldType}
    (hM : vx_Met l y ws rm Pc Qc XC mc ms free) (hblind : FrameBlind Pc) (hrc : rm.cells = mc) (hrs : rm.slots = ms)
    (hframes : rm.frames + 1 ≤ R.frames) (hlocals : W9 + (maxL + 11) + rm.locals ≤ R.locals)
    (hws : ∀ w ∈ ws, ∀ a' U, s.WarmedH U.vm → w.before a' U = true) (hcode : Cond.code y bytes maxL ret ∈ ws) (hinit : ∀ a' U, s.WarmedH U.vm → (Cond.initialized y.cls).before a' U = true) :
    vx_Back l R p e below s sargs y len W9 (PreOf R mc ms Pc) (PostOf Qc mc ms free) (vx_Post XC mc ms free) := by
  intro m meth c A g ig mk a X hg hsize hdg hW hn hp
  have h1 : (headSpec ws rm).pre.before a A.U = true := atoms_intro fun w hw => hws w hw _ _ X.warmed
  have h2 : (Cond.code y bytes maxL ret).before a A.U = true := hws _ hcode _ _ X.warmed
  have h3 : (Cond.initialized y.cls).before a A.U = true := hinit _ _ X.warmed
  have h4 : A.cells + (headSpec ws rm).room.cells ≤ R.cells := by rw [show (headSpec ws rm).room.cells = mc from hrc]; exact hp.1
  have h5 : A.slots + (headSpec ws rm).room.slots ≤ R.slots := by rw [show (headSpec ws rm).room.slots = ms from hrs]; exact hp.2.1
  have hPc : Pc a (A.U.calling g mk a) := hblind _ _ _ _ hp.2.2
  obtain ⟨U, Ls, c0, s0⟩ := A
  dsimp only [Pt.U, Pt.locs, Pt.cells, Pt.slots] at h1 h2 h3 h4 h5 X hn hPc ⊢
  obtain ⟨methY, cY, hmY, hcY, -, hlY, -, -, -, -⟩ := Cond.code_spec hn h2
  obtain ⟨kY, hkY, -⟩ := className_of_methodNamed hn
  have hinitY : kY.init = .initialized := Cond.initialized_spec (findClass_of_methodNamed hn) hkY h3
  have h : At U g.method c below := by rw [hg]; exact X.here
  have hlocals9 : W9 + (maxL + 11) + (headSpec ws rm).room.locals ≤ R.locals := hlocals
  have happ : (headSpec ws rm).appliesLoose y e.platform (U.calling g mk a) = true :=
    Spec.appliesLoose_calling (g := g) h hdg hn hkY hinitY
      (X.room_calling (g := g) (R' := (headSpec ws rm).room) hsize hmY hcY hframes (by rw [hlY]; omega) h4 h5) h1
  obtain ⟨mid, hmid⟩ := h.above
  have hfr : (U.setTop g).frames = (.java g :: mid) ++ below := by rw [State.frames_setTop' g h.top, hmid]; rfl
  obtain ⟨o, s₂, hsteps, -, hend, hq⟩ := Steps.callFree hM p X.admits X.cas X.clock (acts := []) hfr happ hPc trivial
  have hq' : vx_Q Qc XC mc ms free a (U.calling g mk a) o s₂ := hq
  rw [State.frames_setTop' g h.top] at hend
  obtain ⟨g₀, hg0⟩ := Option.isSome_iff_exists.mp h.top
  obtain ⟨r, hr⟩ := State.topJava?_eq_some.mp hg0
  have hr' : (({ U with heap := s₂.heap, slotsUsed := s₂.slotsUsed } : State).setVm s₂.vm).frames = .java g₀ :: r := hr
  rcases hq' with ⟨hqc, L, hfe, hL⟩ | ⟨q, rfl, E, ce, L, hx, hce, hcv, hcl, hW₂, hsm, hL⟩
  · obtain ⟨⟨v, rfl⟩, hW₂, e2, q2, q3, q4, q5, q6⟩ := id hfe
    have e3 : s₂ = ({ (U.calling g mk a).setFrames s₂.frames with heap := s₂.heap, slotsUsed := s₂.slotsUsed } : State).setVm s₂.vm := by
      have : s₂ = ({ s₂ with vm := (U.calling g mk a).vm } : State).setVm s₂.vm := rfl
      rw [e2] at this
      exact this
    obtain ⟨c₂, i₂, len₂, hc₂, hd₂, hf₂⟩ := hend
    have hW' : U.WarmedH s₂.vm := hW₂
    have hcc : c₂ = c := by
      have h1 : s₂.code? g.method = U.code? g.method := by
        rw [State.code?_eq, State.code?_eq, hW'.alike.method?]
      exact Option.some.inj (hc₂.symm.trans (h1.trans h.code))
    subst hcc
    have hlen : len₂ = len := by rw [hdg] at hd₂; cases hd₂; rfl
    subst hlen
    have hs₂ : s₂ = (({ U with heap := s₂.heap, slotsUsed := s₂.slotsUsed } : State).setVm s₂.vm).setTop { g with pc := g.pc + len₂, stack := v.toList ++ g.stack } := by
      refine e3.trans ?_
      rw [hf₂, State.calling_eq h.top, State.setFrames_setFrames, State.setTop_of_frames _ hr', hr]
      rfl
    have hsame : U.sameButNew ({ U with heap := s₂.heap, slotsUsed := s₂.slotsUsed } : State) L mc ms := by
      refine ⟨?_, q2, q3, q4, q5, q6⟩
      obtain ⟨t, ht, -⟩ := State.frames_cons hr
      show ({ U with heap := s₂.heap, slotsUsed := s₂.slotsUsed } : State) = { U.setFrames U.frames with heap := s₂.heap, slotsUsed := s₂.slotsUsed }
      rw [State.setFrames_self ht]
    subst hg
    refine Or.inl ⟨v, ⟨(({ U with heap := s₂.heap, slotsUsed := s₂.slotsUsed } : State).setVm s₂.vm), Ls ++ L, c0 + mc, s0 + ms⟩,
      ⟨X.admits, X.cas, X.clock, X.frames, X.room, X.hears, X.method, X.code, (X.here.setHeapUsed s₂.heap s₂.slotsUsed).setVm hW'.alike, X.tail, State.WarmedH.trans X.warmed hW', X.limits, X.bytes, X.same.trans (hsame.setVm s.vm)⟩,
      ⟨g, mk, s₂, L, rfl, rfl, hqc, rfl, hL, rfl, rfl⟩, ?_⟩
    show Steps p.tables e below _ ((({ U with heap := s₂.heap, slotsUsed := s₂.slotsUsed } : State).setVm s₂.vm).setTop { g with pc := g.pc + len₂, stack := v.toList ++ g.stack })
    rw [← hs₂]
    exact hsteps
  · obtain ⟨e2, q2, q3, q4, q5, q6⟩ := id hsm
    have e3 : s₂ = ({ (U.calling g mk a).setFrames s₂.frames with heap := s₂.heap, slotsUsed := s₂.slotsUsed } : State).setVm s₂.vm := by
      have : s₂ = ({ s₂ with vm := (U.calling g mk a).vm } : State).setVm s₂.vm := rfl
      rw [e2] at this
      exact this
    have hf₂ : s₂.frames = .throwing q :: .java g :: U.frames.tail := hend
    have hW' : U.WarmedH s₂.vm := hW₂
    have hs₂ : s₂ = ((({ U with heap := s₂.heap, slotsUsed := s₂.slotsUsed } : State).setVm s₂.vm).setTop g).pushFrame (.throwing q) := by
      refine e3.trans ?_
      rw [hf₂, State.calling_eq h.top, State.setFrames_setFrames, State.pushFrame, State.frames_setTop _ hr', State.setTop_of_frames _ hr', State.setFrames_setFrames, hr]
      rfl
    have hsame : U.sameButNew ({ U with heap := s₂.heap, slotsUsed := s₂.slotsUsed } : State) L mc ms := by
      refine ⟨?_, q2, q3, q4, q5, q6⟩
      obtain ⟨t, ht, -⟩ := State.frames_cons hr
      show ({ U with heap := s₂.heap, slotsUsed := s₂.slotsUsed } : State) = { U.setFrames U.frames with heap := s₂.heap, slotsUsed := s₂.slotsUsed }
      rw [State.setFrames_self ht]
    subst hg
    refine Or.inr ⟨q, ⟨(({ U with heap := s₂.heap, slotsUsed := s₂.slotsUsed } : State).setVm s₂.vm), Ls ++ L, c0 + mc, s0 + ms⟩,
      ⟨X.admits, X.cas, X.clock, X.frames, X.room, X.hears, X.method, X.code, (X.here.setHeapUsed s₂.heap s₂.slotsUsed).setVm hW'.alike, X.tail, State.WarmedH.trans X.warmed hW', X.limits, X.bytes, X.same.trans (hsame.setVm s.vm)⟩,
      ⟨g, mk, s₂, L, E, ce, rfl, rfl, hx, hce, hcv, hcl, rfl, hL, rfl, rfl⟩, ?_⟩
    show Steps p.tables e below _ (((({ U with heap := s₂.heap, slotsUsed := s₂.slotsUsed } : State).setVm s₂.vm).setTop g).pushFrame (.throwing q))
    rw [← hs₂]
    exact hsteps
end Payer
section Calls
variable {p : Program} {l : Launch} {e : Env} {R : Room} {s : State} {m : MethodId} {args : Array Value} {below : List Frame} {meth : Method} {c : Code} {T : State} {locs : List Loc} {cells slots : Nat}
theorem vx_callV (X : Stand p l e R s m args below meth c T locs cells slots) (hexec : p.tables.exec = Jvm.exec) {own C : String} {index : Nat} {y : MethodName} {bytes : ByteArray} {maxL : Nat} {ret : Option FieldType}
    (hown : s.vm.findClass own = some m.cls) (hlink : (Cond.methodLink own index y).before args s = true) (hinst : (Cond.instanceMethod y).before args s = true) (hsel : (Cond.selects C y y).before args s = true)
    (hcode : (Cond.code y bytes maxL ret).before args s = true) (hy : y.cls ≠ "java/lang/invoke/MethodHandle" ∧ y.cls ≠ "java/lang/invoke/VarHandle")
    {W9 : Nat} {Pre : Pt → Array Value → Prop} {Post : Pt → Array Value → Option Value → Pt → Prop} {PostX : Pt → Array Value → Addr → Pt → Prop} (hK : vx_Back l R p e below s args y 3 W9 Pre Post PostX)
    {b : Addr} {cellB : Cell} (hcell : T.heap[b]? = some cellB) (hobj : cellB.vm.isStatics = false) (hcls : s.vm.findClass C = some cellB.cls)
    {g : JFrame} (hg : g.method = m) (hsize : g.locals.size = c.maxLocals) {argsL rest : List Value} (hlen : ∀ sig, parseMethodDescriptor y.desc = some sig → argsL.length = sig.parameters.length)
    (hstack : g.stack = argsL.reverse ++ .ref b :: rest) (hW : 2 * g.monitorRoom + (rest.map fun v => v.category).sum ≤ W9) (hdg : decode c.code g.pc = .ok (.invokevirtual index, 3))
    (hpre : ∀ vm₁, s.WarmedH vm₁ → Pre ⟨T.setVm vm₁, locs, cells, slots⟩ (Value.ref b :: argsL).toArray) :
    (∃ (v : Option Value) (vm₁ : Vm) (B : Pt), s.WarmedH vm₁ ∧ Stand p l e R s m args below meth c B.U B.locs B.cells B.slots ∧ Post ⟨T.setVm vm₁, locs, cells, slots⟩ (Value.ref b :: argsL).toArray v B ∧
      ∀ target, Steps p.tables e below (B.U.setTop { g with pc := g.pc + 3, stack := v.toList ++ rest }) target → Steps p.tables e below (T.setTop g) target) ∨
    (∃ (q : Addr) (vm₁ : Vm) (B : Pt), s.WarmedH vm₁ ∧ Stand p l e R s m args below meth c B.U B.locs B.cells B.slots ∧ PostX ⟨T.setVm vm₁, locs, cells, slots⟩ (Value.ref b :: argsL).toArray q B ∧
      Steps p.tables e below (T.setTop g) ((B.U.setTop { g with stack := rest }).pushFrame (.throwing q))) := by
  obtain ⟨mk, methM, hnamed, hmethM, hstM, habM⟩ := Cond.instanceMethod_spec hinst
  obtain ⟨methM', cM, hmethM', -, -, -, -, -, -, hsigM⟩ := Cond.code_spec hnamed hcode
  cases hmethM.symm.trans hmethM'
  obtain ⟨c2, r2, m2, q1, q2, q3, q4, kP, hkP, hkPi⟩ := Cond.selects_spec hsel
  cases hcls.symm.trans q1
  cases (State.methodFound?_of_named hnamed hy).symm.trans q2
  cases hnamed.symm.trans q3
  have hselP : selectMethod e.platform s.vm cellB.cls mk = .method mk := by rw [Launch.admits_selectMethod X.admits]; exact q4
  obtain ⟨vm₁, X₁, hstep₁⟩ := X.invokevirtual hexec hown hlink hnamed hmethM hstM hkP hkPi hy (a := b) (cell := cellB) hcell
    (fun z h => by rw [h] at hobj; cases hobj) hselP hmethM habM hkP hkPi (g := g) hg (argsL := argsL) (rest := rest) (hlen _ hsigM) hstack hdg
  rcases hK m meth c ⟨T.setVm vm₁, locs, cells, slots⟩ { g with stack := rest } (.invokevirtual index) mk (Value.ref b :: argsL).toArray X₁ hg hsize hdg hW (X₁.named hnamed) (hpre vm₁ X₁.warmed) with ⟨v, B, X', hpost, hsteps⟩ | ⟨q, B, X', hpost, hsteps⟩
  · exact Or.inl ⟨v, vm₁, B, X₁.warmed, X', hpost, fun target h => hstep₁ _ fun acts => by rw [doInvoke_state]; exact hsteps.trans h⟩
  · exact Or.inr ⟨q, vm₁, B, X₁.warmed, X', hpost, hstep₁ _ fun acts => by rw [doInvoke_state]; exact hsteps⟩
theorem vx_callS (X : Stand p l e R s m args below meth c T locs cells slots) (hexec : p.tables.exec = Jvm.exec) {own : String} {index : Nat} {y : MethodName} {bytes : ByteArray} {maxL : Nat} {ret : Option FieldType}
    (hown : s.vm.findClass own = some m.cls) (hlink : (Cond.methodLink own index y).before args s = true) (hstat : (Cond.static y).before args s = true) (hinit : (Cond.initialized y.cls).before args s = true)
    (hcode : (Cond.code y bytes maxL ret).before args s = true) (hy : y.cls ≠ "java/lang/invoke/MethodHandle" ∧ y.cls ≠ "java/lang/invoke/VarHandle")
    {W9 : Nat} {Pre : Pt → Array Value → Prop} {Post : Pt → Array Value → Option Value → Pt → Prop} {PostX : Pt → Array Value → Addr → Pt → Prop} (hK : vx_Back l R p e below s args y 3 W9 Pre Post PostX)
    {g : JFrame} (hg : g.method = m) (hsize : g.locals.size = c.maxLocals) {argsL rest : List Value} (hlen : ∀ sig, parseMethodDescriptor y.desc = some sig → argsL.length = sig.parameters.length)
    (hstack : g.stack = argsL.reverse ++ rest) (hW : 2 * g.monitorRoom + (rest.map fun v => v.category).sum ≤ W9) (hdg : decode c.code g.pc = .ok (.invokestatic index, 3))
    (hpre : ∀ vm₁, s.WarmedH vm₁ → Pre ⟨T.setVm vm₁, locs, cells, slots⟩ argsL.toArray) :
    (∃ (v : Option Value) (vm₁ : Vm) (B : Pt), s.WarmedH vm₁ ∧ Stand p l e R s m args below meth c B.U B.locs B.cells B.slots ∧ Post ⟨T.setVm vm₁, locs, cells, slots⟩ argsL.toArray v B ∧
      ∀ target, Steps p.tables e below (B.U.setTop { g with pc := g.pc + 3, stack := v.toList ++ rest }) target → Steps p.tables e below (T.setTop g) target) ∨
    (∃ (q : Addr) (vm₁ : Vm) (B : Pt), s.WarmedH vm₁ ∧ Stand p l e R s m args below meth c B.U B.locs B.cells B.slots ∧ PostX ⟨T.setVm vm₁, locs, cells, slots⟩ argsL.toArray q B ∧
      Steps p.tables e below (T.setTop g) ((B.U.setTop { g with stack := rest }).pushFrame (.throwing q))) := by
  obtain ⟨mk, hnamed⟩ := Cond.code_named hcode
  obtain ⟨methM, cM, hmethM, -, -, -, -, -, -, hsigM⟩ := Cond.code_spec hnamed hcode
  have hstatic : methM.isStatic = true := Cond.static_spec hnamed hmethM hstat
  obtain ⟨kP, hkP, -⟩ := className_of_methodNamed hnamed
  have hinitP : kP.init = .initialized := Cond.initialized_spec (findClass_of_methodNamed hnamed) hkP hinit
  obtain ⟨vm₁, X₁, hstep₁⟩ := X.invokestatic hexec hown hlink hnamed hmethM hstatic hkP hinitP hy (g := g) hg (argsL := argsL) (rest := rest) (hlen _ hsigM) hstack hdg
  rcases hK m meth c ⟨T.setVm vm₁, locs, cells, slots⟩ { g with stack := rest } (.invokestatic index) mk argsL.toArray X₁ hg hsize hdg hW (X₁.named hnamed) (hpre vm₁ X₁.warmed) with ⟨v, B, X', hpost, hsteps⟩ | ⟨q, B, X', hpost, hsteps⟩
  · exact Or.inl ⟨v, vm₁, B, X₁.warmed, X', hpost, fun target h => hstep₁ _ fun acts => by rw [doInvoke_state]; exact hsteps.trans h⟩
  · exact Or.inr ⟨q, vm₁, B, X₁.warmed, X', hpost, hstep₁ _ fun acts => by rw [doInvoke_state]; exact hsteps⟩
end Calls
theorem vx_cls {s : State} {T : State} {vm₁ : Vm} {E : String} {k : ClassId} (hW : s.WarmedH vm₁) (h : (T.setVm vm₁).vm.findClass E = some k) : s.vm.findClass E = some k := by
  have h1 : vm₁.findClass E = some k := h
  rw [hW.alike.findClass] at h1
  exact h1
/-- the method's frame g, with q thrown over it -/
def vx_W (p : Program) (l : Launch) (e : Env) (R : Room) (s : State) (m : MethodId) (args : Array Value) (below : List Frame) (meth : Method) (c : Code) (H : Heap) (locs : List Loc) (cells slots : Nat) (Q : State → Prop) (g : JFrame) (q : Addr) : Prop :=
  ∀ T : State, T.heap = H → Stand p l e R s m args below meth c T locs cells slots → ∃ t, Steps p.tables e below ((T.setTop g).pushFrame (.throwing q)) t ∧ Q t
def vx_Run (p : Program) (l : Launch) (e : Env) (R : Room) (s : State) (m : MethodId) (args : Array Value) (below : List Frame) (meth : Method) (c : Code) (H : Heap) (locs : List Loc) (cells slots mc ms : Nat) (g : JFrame) (rest : List Value) (Qa : State → Outcome → State → Prop) (XC : String → State → State → Prop) (free : Addr → Prop) : Prop :=
  ∀ T : State, T.heap = H → Stand p l e R s m args below meth c T locs cells slots →
    (∃ (v : Option Value) (st₀ t T' : State) (L : List Loc), st₀.heap = H ∧ Stand p l e R s m args below meth c T' (locs ++ L) (cells + mc) (slots + ms) ∧ (∀ q ∈ L, free q.base) ∧ T'.heap = t.heap ∧ T'.vm = t.vm ∧ Qa st₀ (.returned v) t ∧
      Goes p e below T g T' { g with pc := g.pc + 3, stack := v.toList ++ rest }) ∨
    (∃ (q : Addr) (st₀ t T' : State) (L : List Loc) (E : String) (ce : Cell), st₀.heap = H ∧ Stand p l e R s m args below meth c T' (locs ++ L) (cells + mc) (slots + ms) ∧ (∀ z ∈ L, free z.base) ∧ T'.heap = t.heap ∧ T'.vm = t.vm ∧ XC E st₀ t ∧ t.heap[q]? = some ce ∧ ce.vm = .none ∧ s.vm.findClass E = some ce.cls ∧
      Steps p.tables e below (T.setTop g) ((T'.setTop { g with stack := rest }).pushFrame (.throwing q)))
def vx_X {S : Type} (px : S → Prop) (B : String → S → State → Prop) (A : Nat → Prop) : String → State → State → Prop := fun E st t => ∃ u : S, px u ∧ B E u t ∧ va_F A st t
section Runs
variable {p : Program} {l : Launch} {e : Env} {R : Room} {s : State} {m : MethodId} {args : Array Value} {below : List Frame} {meth : Method} {c : Code} {H : Heap} {locs : List Loc} {cells slots : Nat}
variable {y : MethodName} {bytes cc : ByteArray} {maxL nL mc ms n index : Nat} {ret : Option FieldType} {ws : List Cond} {rm : Room} {Pc : Array Value → State → Prop} {Qc : Array Value → State → Outcome → State → Prop} {XC : String → State → State → Prop} {free : Addr → Prop} {Ts : List Cond} {own C : String} {b : Addr} {As rest : List Value} {g : JFrame}
theorem vx_callBack (cb : CallB R s args own index y bytes maxL ret ws rm mc ms n) (hM : vx_Met l y ws rm Pc Qc XC mc ms free) (hbl : FrameBlind Pc) : vx_Back l R p e below s args y 3 8 (PreOf R mc ms Pc) (PostOf Qc mc ms free) (vx_Post XC mc ms free) := by
  obtain ⟨hrc, hrs, hfr, hlo, hws, hcw, -, hini, -⟩ := cb
  exact vx_back (bytes := bytes) (maxL := maxL) (ret := ret) hM hbl hrc hrs hfr hlo hws hcw (fun a' U hW => word_at hW (Or.inl (by first | rfl | simp [Cond.onTables, Cond.keeps, Cond.steady])) hini)
theorem vx_runV (S : CallFix p m c cc nL s args Ts own) (hM : vx_Met l y ws rm Pc Qc XC mc ms free) (cw : CallW R s args own C index y bytes maxL ret ws rm mc ms n) (hp : PreV s H C b Pc As)
    (hg : g.method = m) (hn : As.length = n) (hsize : g.locals.size = nL) (hstack : g.stack = As.reverse ++ .ref b :: rest) (hW : 2 * g.monitorRoom + (rest.map fun v => v.category).sum ≤ 8) (hdg : decode cc g.pc = .ok (.invokevirtual index, 3)) (hf : cells + mc ≤ R.cells ∧ slots + ms ≤ R.slots) :
    vx_Run p l e R s m args below meth c H locs cells slots mc ms g rest (Qc (Value.ref b :: As).toArray) XC free := by
  have hK : vx_Back l R p e below s args y 3 8 (PreOf R mc ms Pc) (PostOf Qc mc ms free) (vx_Post XC mc ms free) := vx_callBack cw.1 hM hp.1
  obtain ⟨⟨-, -, -, -, -, -, hcode, -, hy, hlen, hl⟩, hin, hse⟩ := cw
  obtain ⟨hx, hb, hml, ho, -⟩ := S
  obtain ⟨-, ⟨cellB, hcB, hoB, hclB⟩, hPc⟩ := hp
  intro T hT X
  rcases vx_callV X hx (C := C) (bytes := bytes) (maxL := maxL) (ret := ret) ho hl hin hse hcode hy hK (by rw [hT]; exact hcB) hoB hclB hg (hsize.trans hml.symm) (argsL := As) (rest := rest) (fun sig h => hn.trans (hlen sig h)) hstack hW (by rw [hb]; exact hdg)
    (fun vm₁ hW₁ => ⟨hf.1, hf.2, hPc (T.setVm vm₁) hT hW₁⟩) with ⟨v, vm₁, ⟨U', l2, c2, s2⟩, hW₁, X', ⟨g', mk, t, L, e1, e2, hq, h1, hL, h2, h3⟩, st⟩ | ⟨q, vm₁, ⟨U', l2, c2, s2⟩, hW₁, X', ⟨g', mk, t, L, E, ce, e1, e2, hq, hce, hcv, hcl, h1, hL, h2, h3⟩, st⟩
  · dsimp only [Pt.U, Pt.locs, Pt.cells, Pt.slots] at X' e1 e2 h1 h2 h3 st
    subst h1; subst h2; subst h3
    exact Or.inl ⟨v, (T.setVm vm₁).calling g' mk (Value.ref b :: As).toArray, t, U', L, hT, X', hL, e1, e2, hq, st⟩
  · dsimp only [Pt.U, Pt.locs, Pt.cells, Pt.slots] at X' e1 e2 h1 h2 h3 st hcl
    subst h1; subst h2; subst h3
    exact Or.inr ⟨q, (T.setVm vm₁).calling g' mk (Value.ref b :: As).toArray, t, U', L, E, ce, hT, X', hL, e1, e2, hq, hce, hcv, vx_cls hW₁ hcl, st⟩
theorem vx_runS (S : CallFix p m c cc nL s args Ts own) (hM : vx_Met l y ws rm Pc Qc XC mc ms free) (cw : CallB R s args own index y bytes maxL ret ws rm mc ms n ∧ (Cond.static y).before args s = true) (hp : PreS s H Pc As)
    (hg : g.method = m) (hn : As.length = n) (hsize : g.locals.size = nL) (hstack : g.stack = As.reverse ++ rest) (hW : 2 * g.monitorRoom + (rest.map fun v => v.category).sum ≤ 8) (hdg : decode cc g.pc = .ok (.invokestatic index, 3)) (hf : cells + mc ≤ R.cells ∧ slots + ms ≤ R.slots) :
    vx_Run p l e R s m args below meth c H locs cells slots mc ms g rest (Qc As.toArray) XC free := by
  have hK : vx_Back l R p e below s args y 3 8 (PreOf R mc ms Pc) (PostOf Qc mc ms free) (vx_Post XC mc ms free) := vx_callBack cw.1 hM hp.1
  obtain ⟨⟨-, -, -, -, -, -, hcode, hini, hy, hlen, hl⟩, hstt⟩ := cw
  obtain ⟨hx, hb, hml, ho, -⟩ := S
  intro T hT X
  rcases vx_callS X hx (bytes := bytes) (maxL := maxL) (ret := ret) ho hl hstt hini hcode hy hK hg (hsize.trans hml.symm) (argsL := As) (rest := rest) (fun sig h => hn.trans (hlen sig h)) hstack hW (by rw [hb]; exact hdg)
    (fun vm₁ hW₁ => ⟨hf.1, hf.2, hp.2 (T.setVm vm₁) hT hW₁⟩) with ⟨v, vm₁, ⟨U', l2, c2, s2⟩, hW₁, X', ⟨g', mk, t, L, e1, e2, hq, h1, hL, h2, h3⟩, st⟩ | ⟨q, vm₁, ⟨U', l2, c2, s2⟩, hW₁, X', ⟨g', mk, t, L, E, ce, e1, e2, hq, hce, hcv, hcl, h1, hL, h2, h3⟩, st⟩
  · dsimp only [Pt.U, Pt.locs, Pt.cells, Pt.slots] at X' e1 e2 h1 h2 h3 st
    subst h1; subst h2; subst h3
    exact Or.inl ⟨v, (T.setVm vm₁).calling g' mk As.toArray, t, U', L, hT, X', hL, e1, e2, hq, st⟩
  · dsimp only [Pt.U, Pt.locs, Pt.cells, Pt.slots] at X' e1 e2 h1 h2 h3 st hcl
    subst h1; subst h2; subst h3
    exact Or.inr ⟨q, (T.setVm vm₁).calling g' mk As.toArray, t, U', L, E, ce, hT, X', hL, e1, e2, hq, hce, hcv, vx_cls hW₁ hcl, st⟩
end Runs
section Rows
variable {p : Program} {l : Launch} {e : Env} {R : Room} {s : State} {m : MethodId} {args : Array Value} {below : List Frame} {meth : Method} {c : Code} {H : Heap} {locs : List Loc} {cells slots : Nat} {Q : State → Prop}
variable {mc ms : Nat} {free : Addr → Prop} {A0 A1 : Nat → Prop} {H0 : Heap} {a : Array Value} {pc : Nat} {ls : Array Slot} {st0 rest : List Value}
theorem vx_keep {st₀ t T' : State} {L : List Loc} (h0 : st₀.heap = H) (e1 : T'.heap = t.heap) (hS : va_S A0 H0 H locs) (hA : ∀ q, q < H.size → A1 q → A0 q) (hf : ∀ q, free q → A0 q) (hL : ∀ q ∈ L, free q.base) (hF : va_F A1 st₀ t) :
    H.size ≤ T'.heap.size ∧ (∀ q : Nat, q < H.size → ¬ A1 q → T'.heap[q]? = H[q]?) ∧ va_S A0 H0 T'.heap (locs ++ L) := by
  obtain ⟨hz, hk⟩ := hF
  rw [h0] at hz hk
  exact ⟨by rw [e1]; exact hz, fun q h1 h2 => by rw [e1]; exact hk q h1 h2,
    ⟨Nat.le_trans hS.1 (by rw [e1]; exact hz), fun q h1 h2 => by rw [e1, hk q (Nat.lt_of_lt_of_le h1 hS.1) (fun z => h2 (hA q (Nat.lt_of_lt_of_le h1 hS.1) z))]; exact hS.2.1 q h1 h2, fun q hq => by
      rcases List.mem_append.mp hq with h | h
      · exact hS.2.2 q h
      · exact hf _ (hL q h)⟩⟩
theorem vx_calli {S SX : Type} {post : Int32 → S → Prop} {px : SX → Prop} {B : S → State → Prop} {BX : String → SX → State → Prop} {AX : Nat → Prop} (hr : vx_Run p l e R s m args below meth c H locs cells slots mc ms (F0 m pc ls st0) rest (va_Qi post B A1 a) (vx_X px BX AX) free) (hS : va_S A0 H0 H locs) (hA : ∀ q, q < H.size → A1 q → A0 q) (hf : ∀ q, free q → A0 q) (hAX : ∀ q, q < H.size → AX q → A0 q)
    (kx : ∀ (E : String) (ce : Cell) (q9 : Addr) (u : SX) (t : State) (H1 : Heap) (locs1 : List Loc), t.heap = H1 → s.vm.Alike t.vm → px u → BX E u t → H.size ≤ H1.size → (∀ q : Nat, q < H.size → ¬ AX q → H1[q]? = H[q]?) → va_S A0 H0 H1 locs1 → H1[q9]? = some ce → ce.vm = .none → s.vm.findClass E = some ce.cls → vx_W p l e R s m args below meth c H1 locs1 (cells + mc) (slots + ms) Q (F0 m pc ls rest) q9)
    (kk : ∀ (r : Int32) (u : S) (t : State) (H1 : Heap) (locs1 : List Loc), t.heap = H1 → s.vm.Alike t.vm → post r u → B u t → H.size ≤ H1.size → (∀ q : Nat, q < H.size → ¬ A1 q → H1[q]? = H[q]?) → va_S A0 H0 H1 locs1 → W p l e R s m args below meth c H1 locs1 (cells + mc) (slots + ms) Q (F0 m (pc + 3) ls (.int r :: rest))) : W p l e R s m args below meth c H locs cells slots Q (F0 m pc ls st0) := by
  intro T hT X
  rcases hr T hT X with ⟨v, st₀, t, T', L, h0, X', hL, e1, e2, ⟨⟨r, u, hv, hp, hb⟩, hF⟩, st⟩ | ⟨q, st₀, t, T', L, E, ce, h0, X', hL, e1, e2, ⟨u, hp, hb, hF⟩, hce, hcv, hcl, st⟩
  · cases hv
    obtain ⟨k1, k2, k3⟩ := vx_keep h0 e1 hS hA hf hL hF
    obtain ⟨t2, a1, b1⟩ := kk r u t T'.heap (locs ++ L) e1.symm (by rw [← e2]; exact X'.warmed.alike) hp hb k1 k2 k3 T' rfl X'
    exact ⟨t2, st t2 a1, b1⟩
  · obtain ⟨k1, k2, k3⟩ := vx_keep h0 e1 hS hAX hf hL hF
    obtain ⟨t2, a1, b1⟩ := kx E ce q u t T'.heap (locs ++ L) e1.symm (by rw [← e2]; exact X'.warmed.alike) hp hb k1 k2 k3 (by rw [e1]; exact hce) hcv hcl T' rfl X'
    exact ⟨t2, st.trans a1, b1⟩
theorem vx_calll {S SX : Type} {post : Int64 → S → Prop} {px : SX → Prop} {B : S → State → Prop} {BX : String → SX → State → Prop} {AX : Nat → Prop} (hr : vx_Run p l e R s m args below meth c H locs cells slots mc ms (F0 m pc ls st0) rest (va_Ql post B A1 a) (vx_X px BX AX) free) (hS : va_S A0 H0 H locs) (hA : ∀ q, q < H.size → A1 q → A0 q) (hf : ∀ q, free q → A0 q) (hAX : ∀ q, q < H.size → AX q → A0 q)
    (kx : ∀ (E : String) (ce : Cell) (q9 : Addr) (u : SX) (t : State) (H1 : Heap) (locs1 : List Loc), t.heap = H1 → s.vm.Alike t.vm → px u → BX E u t → H.size ≤ H1.size → (∀ q : Nat, q < H.size → ¬ AX q → H1[q]? = H[q]?) → va_S A0 H0 H1 locs1 → H1[q9]? = some ce → ce.vm = .none → s.vm.findClass E = some ce.cls → vx_W p l e R s m args below meth c H1 locs1 (cells + mc) (slots + ms) Q (F0 m pc ls rest) q9)
    (kk : ∀ (r : Int64) (u : S) (t : State) (H1 : Heap) (locs1 : List Loc), t.heap = H1 → s.vm.Alike t.vm → post r u → B u t → H.size ≤ H1.size → (∀ q : Nat, q < H.size → ¬ A1 q → H1[q]? = H[q]?) → va_S A0 H0 H1 locs1 → W p l e R s m args below meth c H1 locs1 (cells + mc) (slots + ms) Q (F0 m (pc + 3) ls (.long r :: rest))) : W p l e R s m args below meth c H locs cells slots Q (F0 m pc ls st0) := by
  intro T hT X
  rcases hr T hT X with ⟨v, st₀, t, T', L, h0, X', hL, e1, e2, ⟨⟨r, u, hv, hp, hb⟩, hF⟩, st⟩ | ⟨q, st₀, t, T', L, E, ce, h0, X', hL, e1, e2, ⟨u, hp, hb, hF⟩, hce, hcv, hcl, st⟩
  · cases hv
    obtain ⟨k1, k2, k3⟩ := vx_keep h0 e1 hS hA hf hL hF
    obtain ⟨t2, a1, b1⟩ := kk r u t T'.heap (locs ++ L) e1.symm (by rw [← e2]; exact X'.warmed.alike) hp hb k1 k2 k3 T' rfl X'
    exact ⟨t2, st t2 a1, b1⟩
  · obtain ⟨k1, k2, k3⟩ := vx_keep h0 e1 hS hAX hf hL hF
    obtain ⟨t2, a1, b1⟩ := kx E ce q u t T'.heap (locs ++ L) e1.symm (by rw [← e2]; exact X'.warmed.alike) hp hb k1 k2 k3 (by rw [e1]; exact hce) hcv hcl T' rfl X'
    exact ⟨t2, st.trans a1, b1⟩
theorem vx_callf {S SX : Type} {post : UInt32 → S → Prop} {px : SX → Prop} {B : S → State → Prop} {BX : String → SX → State → Prop} {AX : Nat → Prop} (hr : vx_Run p l e R s m args below meth c H locs cells slots mc ms (F0 m pc ls st0) rest (va_Qf post B A1 a) (vx_X px BX AX) free) (hS : va_S A0 H0 H locs) (hA : ∀ q, q < H.size → A1 q → A0 q) (hf : ∀ q, free q → A0 q) (hAX : ∀ q, q < H.size → AX q → A0 q)
    (kx : ∀ (E : String) (ce : Cell) (q9 : Addr) (u : SX) (t : State) (H1 : Heap) (locs1 : List Loc), t.heap = H1 → s.vm.Alike t.vm → px u → BX E u t → H.size ≤ H1.size → (∀ q : Nat, q < H.size → ¬ AX q → H1[q]? = H[q]?) → va_S A0 H0 H1 locs1 → H1[q9]? = some ce → ce.vm = .none → s.vm.findClass E = some ce.cls → vx_W p l e R s m args below meth c H1 locs1 (cells + mc) (slots + ms) Q (F0 m pc ls rest) q9)
    (kk : ∀ (r : UInt32) (u : S) (t : State) (H1 : Heap) (locs1 : List Loc), t.heap = H1 → s.vm.Alike t.vm → post r u → B u t → H.size ≤ H1.size → (∀ q : Nat, q < H.size → ¬ A1 q → H1[q]? = H[q]?) → va_S A0 H0 H1 locs1 → W p l e R s m args below meth c H1 locs1 (cells + mc) (slots + ms) Q (F0 m (pc + 3) ls (.float r :: rest))) : W p l e R s m args below meth c H locs cells slots Q (F0 m pc ls st0) := by
  intro T hT X
  rcases hr T hT X with ⟨v, st₀, t, T', L, h0, X', hL, e1, e2, ⟨⟨r, u, hv, hp, hb⟩, hF⟩, st⟩ | ⟨q, st₀, t, T', L, E, ce, h0, X', hL, e1, e2, ⟨u, hp, hb, hF⟩, hce, hcv, hcl, st⟩
  · cases hv
    obtain ⟨k1, k2, k3⟩ := vx_keep h0 e1 hS hA hf hL hF
    obtain ⟨t2, a1, b1⟩ := kk r u t T'.heap (locs ++ L) e1.symm (by rw [← e2]; exact X'.warmed.alike) hp hb k1 k2 k3 T' rfl X'
    exact ⟨t2, st t2 a1, b1⟩
  · obtain ⟨k1, k2, k3⟩ := vx_keep h0 e1 hS hAX hf hL hF
    obtain ⟨t2, a1, b1⟩ := kx E ce q u t T'.heap (locs ++ L) e1.symm (by rw [← e2]; exact X'.warmed.alike) hp hb k1 k2 k3 (by rw [e1]; exact hce) hcv hcl T' rfl X'
    exact ⟨t2, st.trans a1, b1⟩
theorem vx_calld {S SX : Type} {post : UInt64 → S → Prop} {px : SX → Prop} {B : S → State → Prop} {BX : String → SX → State → Prop} {AX : Nat → Prop} (hr : vx_Run p l e R s m args below meth c H locs cells slots mc ms (F0 m pc ls st0) rest (va_Qd post B A1 a) (vx_X px BX AX) free) (hS : va_S A0 H0 H locs) (hA : ∀ q, q < H.size → A1 q → A0 q) (hf : ∀ q, free q → A0 q) (hAX : ∀ q, q < H.size → AX q → A0 q)
    (kx : ∀ (E : String) (ce : Cell) (q9 : Addr) (u : SX) (t : State) (H1 : Heap) (locs1 : List Loc), t.heap = H1 → s.vm.Alike t.vm → px u → BX E u t → H.size ≤ H1.size → (∀ q : Nat, q < H.size → ¬ AX q → H1[q]? = H[q]?) → va_S A0 H0 H1 locs1 → H1[q9]? = some ce → ce.vm = .none → s.vm.findClass E = some ce.cls → vx_W p l e R s m args below meth c H1 locs1 (cells + mc) (slots + ms) Q (F0 m pc ls rest) q9)
    (kk : ∀ (r : UInt64) (u : S) (t : State) (H1 : Heap) (locs1 : List Loc), t.heap = H1 → s.vm.Alike t.vm → post r u → B u t → H.size ≤ H1.size → (∀ q : Nat, q < H.size → ¬ A1 q → H1[q]? = H[q]?) → va_S A0 H0 H1 locs1 → W p l e R s m args below meth c H1 locs1 (cells + mc) (slots + ms) Q (F0 m (pc + 3) ls (.double r :: rest))) : W p l e R s m args below meth c H locs cells slots Q (F0 m pc ls st0) := by
  intro T hT X
  rcases hr T hT X with ⟨v, st₀, t, T', L, h0, X', hL, e1, e2, ⟨⟨r, u, hv, hp, hb⟩, hF⟩, st⟩ | ⟨q, st₀, t, T', L, E, ce, h0, X', hL, e1, e2, ⟨u, hp, hb, hF⟩, hce, hcv, hcl, st⟩
  · cases hv
    obtain ⟨k1, k2, k3⟩ := vx_keep h0 e1 hS hA hf hL hF
    obtain ⟨t2, a1, b1⟩ := kk r u t T'.heap (locs ++ L) e1.symm (by rw [← e2]; exact X'.warmed.alike) hp hb k1 k2 k3 T' rfl X'
    exact ⟨t2, st t2 a1, b1⟩
  · obtain ⟨k1, k2, k3⟩ := vx_keep h0 e1 hS hAX hf hL hF
    obtain ⟨t2, a1, b1⟩ := kx E ce q u t T'.heap (locs ++ L) e1.symm (by rw [← e2]; exact X'.warmed.alike) hp hb k1 k2 k3 (by rw [e1]; exact hce) hcv hcl T' rfl X'
    exact ⟨t2, st.trans a1, b1⟩
theorem vx_callv {S SX : Type} {post : S → Prop} {px : SX → Prop} {B : S → State → Prop} {BX : String → SX → State → Prop} {AX : Nat → Prop} (hr : vx_Run p l e R s m args below meth c H locs cells slots mc ms (F0 m pc ls st0) rest (va_Qv post B A1 a) (vx_X px BX AX) free) (hS : va_S A0 H0 H locs) (hA : ∀ q, q < H.size → A1 q → A0 q) (hf : ∀ q, free q → A0 q) (hAX : ∀ q, q < H.size → AX q → A0 q)
    (kx : ∀ (E : String) (ce : Cell) (q9 : Addr) (u : SX) (t : State) (H1 : Heap) (locs1 : List Loc), t.heap = H1 → s.vm.Alike t.vm → px u → BX E u t → H.size ≤ H1.size → (∀ q : Nat, q < H.size → ¬ AX q → H1[q]? = H[q]?) → va_S A0 H0 H1 locs1 → H1[q9]? = some ce → ce.vm = .none → s.vm.findClass E = some ce.cls → vx_W p l e R s m args below meth c H1 locs1 (cells + mc) (slots + ms) Q (F0 m pc ls rest) q9)
    (kk : ∀ (u : S) (t : State) (H1 : Heap) (locs1 : List Loc), t.heap = H1 → s.vm.Alike t.vm → post u → B u t → H.size ≤ H1.size → (∀ q : Nat, q < H.size → ¬ A1 q → H1[q]? = H[q]?) → va_S A0 H0 H1 locs1 → W p l e R s m args below meth c H1 locs1 (cells + mc) (slots + ms) Q (F0 m (pc + 3) ls (rest))) : W p l e R s m args below meth c H locs cells slots Q (F0 m pc ls st0) := by
  intro T hT X
  rcases hr T hT X with ⟨v, st₀, t, T', L, h0, X', hL, e1, e2, ⟨⟨u, hv, hp, hb⟩, hF⟩, st⟩ | ⟨q, st₀, t, T', L, E, ce, h0, X', hL, e1, e2, ⟨u, hp, hb, hF⟩, hce, hcv, hcl, st⟩
  · cases hv
    obtain ⟨k1, k2, k3⟩ := vx_keep h0 e1 hS hA hf hL hF
    obtain ⟨t2, a1, b1⟩ := kk u t T'.heap (locs ++ L) e1.symm (by rw [← e2]; exact X'.warmed.alike) hp hb k1 k2 k3 T' rfl X'
    exact ⟨t2, st t2 a1, b1⟩
  · obtain ⟨k1, k2, k3⟩ := vx_keep h0 e1 hS hAX hf hL hF
    obtain ⟨t2, a1, b1⟩ := kx E ce q u t T'.heap (locs ++ L) e1.symm (by rw [← e2]; exact X'.warmed.alike) hp hb k1 k2 k3 (by rw [e1]; exact hce) hcv hcl T' rfl X'
    exact ⟨t2, st.trans a1, b1⟩
/-- caught by the row x of this method's table; the rows ahead don't take it -/
theorem vx_catch {own name : String} {E : String} {ce : Cell} {q : Addr} (hown : s.vm.findClass own = some m.cls) (pre : List ExceptionTableEntry) (x : ExceptionTableEntry) (suf : List ExceptionTableEntry) (hsplit : c.exceptionTable.toList = pre ++ x :: suf)
    (hpass : ∀ z ∈ pre, covers z pc = false ∨ (z.catchType ≠ 0 ∧ ∃ nm : String, (Cond.classLink own z.catchType nm).before args s = true ∧ va_Nc E nm s)) (hx : covers x pc = true) (h0 : x.catchType ≠ 0)
    (hlink : (Cond.classLink own x.catchType name).before args s = true) (hcast : (Cond.castable E name).before args s = true) (hcell : H[q]? = some ce) (hv : ce.vm = .none) (hcl : s.vm.findClass E = some ce.cls)
    (kk : W p l e R s m args below meth c H locs cells slots Q (F0 m x.handlerPc ls [.ref q])) : vx_W p l e R s m args below meth c H locs cells slots Q (F0 m pc ls rest) q := by
  intro T hT X
  have hpl : e.platform.magicAccessors = ({} : Platform).magicAccessors := by rw [X.admits.platform]
  obtain ⟨c3, c4, hc3, hc4, hasg⟩ := Cond.castable_spec hcast
  cases Option.some.inj (hc3.symm.trans hcl)
  obtain ⟨c5, hc5, hcl5⟩ := Cond.classLink_spec hown hlink e.platform hpl
  cases Option.some.inj (hc4.symm.trans hc5)
  obtain ⟨vm', X', st⟩ := X.thenCaughtThrough q (g := F0 m pc ls rest) rfl (Steps.refl _) (by rw [hT]; exact hcell) (by rw [hv]; rfl) (by obtain ⟨k9, h9, -⟩ := Vm.findClass_spec hcl; exact ⟨k9, h9⟩) pre x suf hsplit
    (fun z hz => by
      rcases hpass z hz with h | ⟨hz0, nm, hl1, hn1⟩
      · exact Or.inl h
      · obtain ⟨c6, hc6, hcl6⟩ := Cond.classLink_spec hown hl1 e.platform hpl
        obtain ⟨a8, b8, h1, h2, h3⟩ := hn1
        cases Option.some.inj (h1.symm.trans hcl)
        cases Option.some.inj (h2.symm.trans hc6)
        exact Or.inr ⟨hz0, _, hcl6, h3⟩) hx (Or.inr ⟨h0, c4, hcl5, hasg⟩)
  obtain ⟨t, a1, b1⟩ := kk (T.setVm vm') hT X'
  exact ⟨t, st.trans a1, b1⟩
end Rows
section Ends
variable {p : Program} {l : Launch} {e : Env} {R : Room} {s : State} {m : MethodId} {args : Array Value} {below : List Frame} {meth : Method} {c : Code} {H : Heap} {locs : List Loc} {cells slots : Nat} {Q : State → Prop}
variable {mc ms : Nat} {free : Addr → Prop} {A0 A1 : Nat → Prop} {H0 : Heap} {a : Array Value} {ls : Array Slot} {st0 rest : List Value}
variable {Qc : Array Value → State → Outcome → State → Prop} {XC : String → State → State → Prop}
/-- what a body that may throw owes at its end -/
def vx_MQ (below : List Frame) (Qc : Array Value → State → Outcome → State → Prop) (XC : String → State → State → Prop) (a : Array Value) (s : State) (mc ms : Nat) (free : Addr → Prop) : State → Prop := fun t =>
  ∃ o, t.status = .running ∧ Ended t below o ∧ vx_Q Qc XC mc ms free a s o t
theorem vx_ret {g : JFrame} {mc ms : Nat} (k : W p l e R s m args below meth c H locs cells slots (MQ below Qc args s mc ms free) g) : W p l e R s m args below meth c H locs cells slots (vx_MQ below Qc XC args s mc ms free) g := by
  intro T hT X
  obtain ⟨t, a1, o, b1, b2, b3, b4⟩ := k T hT X
  exact ⟨t, a1, o, b1, b2, Or.inl ⟨b3, b4⟩⟩
/-- not caught here: it goes on to the caller -/
theorem vx_widen {g : JFrame} {q : Addr} {k n : Nat} (h1 : cells ≤ k) (h2 : slots ≤ n) (kk : vx_W p l e R s m args below meth c H locs k n Q g q) : vx_W p l e R s m args below meth c H locs cells slots Q g q := fun T hT X => kk T hT (stand_widen X h1 h2)
theorem vx_out {pc : Nat} {E : String} {ce : Cell} {q : Addr} {mc ms : Nat} (hout : ∀ x ∈ c.exceptionTable.toList, covers x pc = false) (hlocks : meth.locks = false) (hcell : H[q]? = some ce) (hv : ce.vm = .none) (hcl : s.vm.findClass E = some ce.cls)
    (hx : ∀ t : State, t.heap = H → s.vm.Alike t.vm → XC E s t) (hf : ∀ z ∈ locs, free z.base) (hc : cells ≤ mc) (hs : slots ≤ ms) :
    vx_W p l e R s m args below meth c H locs cells slots (vx_MQ below Qc XC args s mc ms free) (F0 m pc ls rest) q := by
  intro T hT X
  obtain ⟨st1, hrun, hend, hW, hsm⟩ := X.leaveThrown q (g := F0 m pc ls rest) rfl rfl rfl hout hlocks
  have hcell9 : (T.setFrames (.throwing q :: below)).heap[q]? = some ce := by
    show T.heap[q]? = some ce
    rw [hT]; exact hcell
  exact ⟨_, st1, .threw q, hrun, hend, Or.inr ⟨q, rfl, E, ce, locs, hx _ hT hW.alike, hcell9, hv, hcl, hW, hsm.mono hc hs, hf⟩⟩
theorem vx_frame {U : State} {k n : Nat} (h : s.sameButNew ({ U with vm := s.vm } : State) locs k n) : s.heap.size ≤ U.heap.size ∧ ∀ q : Nat, q < s.heap.size → (∀ z ∈ locs, z.base ≠ q) → U.heap[q]? = s.heap[q]? := by
  obtain ⟨-, h2, -, -, -, h6⟩ := h
  refine ⟨h2, fun q hq hz => ?_⟩
  obtain ⟨c9, e1, e2, e3, e4⟩ := h6 q _ (Array.getElem?_eq_getElem hq)
  have hs : c9.slots = (s.heap[q]).slots := Array.ext_getElem? fun i => e4 i fun hm => hz _ hm rfl
  have h9 : c9 = s.heap[q] := by
    rw [hs] at e2
    exact e2
  have e5 : U.heap[q]? = some c9 := e1
  rw [e5, h9, Array.getElem?_eq_getElem hq]
/-- the words of a throw but the four that speak of the heap -/
def vx_no (w : Cond) : Bool := decide (w ≠ .isRef (.static Bundle.tN "UNASSIGNED_STACK" Bundle.steD)) && decide (w ≠ .isRef (.static Bundle.tN "SUPPRESSED_SENTINEL" Bundle.listD)) && decide (w ≠ .laysStatic Bundle.tN "UNASSIGNED_STACK" Bundle.steD) && decide (w ≠ .laysStatic Bundle.tN "SUPPRESSED_SENTINEL" Bundle.listD)
def vx_at0 (own : String) (ic : Nat) (X : String) (names : List String) : List Cond := (Bundle.ownAtoms0 own ic X names).filter vx_no
def vx_atS (own : String) (ic : Nat) (X : String) (names : List String) : List Cond := (Bundle.ownAtoms own ic X names).filter vx_no
/-- a word that the tables alone decide, or a good one -/
def vx_ot (w : Cond) : Bool := w.onTables || goodWord w
theorem vx_ot_at {args a' : Array Value} {s U : State} {w : Cond} (hW : s.WarmedH U.vm) (hvm : s.vm = U.vm) (hg : vx_ot w = true) (h : w.before args s = true) : w.before a' U = true := by
  simp only [vx_ot, Bool.or_eq_true] at hg
  rcases hg with hg | hg
  · exact va_tabs hg hvm h
  · exact word_at hW (good_of_word hg) h
/-- a list's words: the good ones out of the method's own list, the others by premises of their own -/
theorem vx_hat {args : Array Value} {s : State} {L B : List Cond} (h1 : ∀ w ∈ L.filter goodWord, w.before args s = true) (h2 : ∀ w ∈ L.filter (fun w => !goodWord w), w ∈ B) (h3 : ∀ w ∈ B, w.before args s = true) : ∀ w ∈ L, w.before args s = true := by
  intro w hw
  by_cases g : goodWord w = true
  · exact h1 w (List.mem_filter.mpr ⟨hw, g⟩)
  · refine h3 w (h2 w (List.mem_filter.mpr ⟨hw, ?_⟩))
    show (!goodWord w) = true
    cases hgw : goodWord w
    · rfl
    · exact absurd hgw g
theorem vx_c {args : Array Value} {s : State} {w : Cond} {B : List Cond} (h : w.before args s = true) (t : ∀ w ∈ B, w.before args s = true) : ∀ w' ∈ w :: B, w'.before args s = true := fun w' h' => (List.mem_cons.mp h').elim (fun e => by rw [e]; exact h) (t w')
theorem vx_n {args : Array Value} {s : State} : ∀ w ∈ ([] : List Cond), w.before args s = true := fun _ h => nomatch h
theorem vx_own {args : Array Value} {s : State} {L : List Cond} (h1 : ∀ w ∈ L.filter vx_no, w.before args s = true)
    (hU : (Cond.isRef (.static Bundle.tN "UNASSIGNED_STACK" Bundle.steD)).before args s = true) (hN : (Cond.isRef (.static Bundle.tN "SUPPRESSED_SENTINEL" Bundle.listD)).before args s = true)
    (lU : (Cond.laysStatic Bundle.tN "UNASSIGNED_STACK" Bundle.steD).before args s = true) (lN : (Cond.laysStatic Bundle.tN "SUPPRESSED_SENTINEL" Bundle.listD).before args s = true) : ∀ w ∈ L, w.before args s = true := by
  intro w hw
  by_cases e1 : w = .isRef (.static Bundle.tN "UNASSIGNED_STACK" Bundle.steD)
  · rw [e1]; exact hU
  · by_cases e2 : w = .isRef (.static Bundle.tN "SUPPRESSED_SENTINEL" Bundle.listD)
    · rw [e2]; exact hN
    · by_cases e3 : w = .laysStatic Bundle.tN "UNASSIGNED_STACK" Bundle.steD
      · rw [e3]; exact lU
      · by_cases e4 : w = .laysStatic Bundle.tN "SUPPRESSED_SENTINEL" Bundle.listD
        · rw [e4]; exact lN
        · exact h1 w (List.mem_filter.mpr ⟨hw, by unfold vx_no; rw [decide_eq_true e1, decide_eq_true e2, decide_eq_true e3, decide_eq_true e4]; rfl⟩)
/-- where a static field lies, its class's statics cell in H -/
def vx_L (C n d : String) (A : Nat → Prop) (U : State) (H : Heap) : Prop := ∃ (c : ClassId) (k : Class) (i : Nat) (f : Field) (a : Nat) (cell : Cell), U.vm.findClass C = some c ∧ U.fieldFound? C n d = some (c, k, i, f) ∧ f.isStatic = true ∧ k.statics = some a ∧ H[a]? = some cell ∧ cell.vm.isStatics = true ∧ cell.cls = c ∧ f.slot < cell.slots.size ∧ k.staticTypes[f.slot]? = some f.type ∧ ¬ A a
theorem vx_L.moved {C n d : String} {A : Nat → Prop} {u U : State} {H : Heap} (hvm : u.vm.Alike U.vm) (h : vx_L C n d A u H) : vx_L C n d A U H := by
  obtain ⟨c, k, i, f, a, cell, h1, h2, h3, h4, h5, h6, h7, h8, h9, h10⟩ := h
  obtain ⟨k', hi', he⟩ := State.fieldFound?_setVm hvm h2
  exact ⟨c, k', i, f, a, cell, by rw [hvm.findClass]; exact h1, hi', h3, by rw [he]; exact h4, h5, h6, h7, h8, by rw [he]; exact h9, h10⟩
theorem vx_L.kept {C n d : String} {A : Nat → Prop} {U : State} {H H1 : Heap} (h : vx_L C n d A U H) (hq : ∀ a : Nat, a < H.size → ¬ A a → H1[a]? = H[a]?) : vx_L C n d A U H1 := by
  obtain ⟨c, k, i, f, a, cell, h1, h2, h3, h4, h5, h6, h7, h8, h9, h10⟩ := h
  exact ⟨c, k, i, f, a, cell, h1, h2, h3, h4, by rw [hq a (Array.getElem?_eq_some_iff.mp h5).1 h10]; exact h5, h6, h7, h8, h9, h10⟩
theorem vx_L.narrow {C n d : String} {A B : Nat → Prop} {U : State} {H : Heap} (h : vx_L C n d A U H) (hAB : ∀ q, B q → A q) : vx_L C n d B U H := by
  obtain ⟨c, k, i, f, a, cell, h1, h2, h3, h4, h5, h6, h7, h8, h9, h10⟩ := h
  exact ⟨c, k, i, f, a, cell, h1, h2, h3, h4, h5, h6, h7, h8, h9, fun z => h10 (hAB _ z)⟩
theorem vx_L.word {C n d : String} {A : Nat → Prop} {s : State} {args : Array Value} (h : vx_L C n d A s s.heap) : (Cond.laysStatic C n d).before args s = true := by
  obtain ⟨c, k, i, f, a, cell, h1, h2, h3, h4, h5, h6, h7, h8, h9, -⟩ := h
  show (Cond.laysStatic C n d).holds args s none s [] = true
  exact Cond.laysStatic_of h1 h2 h3 h4 h5 h6 h7 h8 h9
/-- .. and what it holds: null or some reference -/
def vx_Zq (C n d : String) (A : Nat → Prop) (U : State) (H : Heap) : Prop := va_Zq C n d A U H ∧ vx_L C n d A U H
theorem vx_Zq.moved {C n d : String} {A : Nat → Prop} {u U : State} {H : Heap} (hvm : u.vm.Alike U.vm) (h : vx_Zq C n d A u H) : vx_Zq C n d A U H := ⟨va_Zq.moved hvm h.1, vx_L.moved hvm h.2⟩
theorem vx_Zq.kept {C n d : String} {A : Nat → Prop} {U : State} {H H1 : Heap} (h : vx_Zq C n d A U H) (hq : ∀ a : Nat, a < H.size → ¬ A a → H1[a]? = H[a]?) : vx_Zq C n d A U H1 := ⟨va_Zq.kept h.1 hq, vx_L.kept h.2 hq⟩
theorem vx_Zq.narrow {C n d : String} {A B : Nat → Prop} {U : State} {H : Heap} (h : vx_Zq C n d A U H) (hAB : ∀ q, B q → A q) : vx_Zq C n d B U H := ⟨va_Zq.narrow h.1 hAB, vx_L.narrow h.2 hAB⟩
theorem vx_Zqof {args : Array Value} {s : State} {C n d : String} {A : Nat → Prop} (hl : (Cond.laysStatic C n d).before args s = true) (hini : (Cond.initialized C).before args s = true) (h : (Cond.isRef (.static C n d)).before args s = true) (hA : ∀ a : Nat, a < s.heap.size → ¬ A a) : vx_Zq C n d A s s.heap := by
  refine ⟨va_Zqof hl hini h hA, ?_⟩
  obtain ⟨c, k, i, f, a, cell, h1, h2, h3, h4, h5, h6, h7, h8, h9⟩ := Cond.laysStatic_spec hl
  exact ⟨c, k, i, f, a, cell, h1, h2, h3, h4, h5, h6, h7, h8, h9, hA a (Array.getElem?_eq_some_iff.mp h5).1⟩
theorem vx_isRef {C n d : String} {v : Value} {A : Nat → Prop} {s : State} {args : Array Value} (h : va_Z C n d v A s s.heap) (hv : v.isRef = true) : (Cond.isRef (.static C n d)).before args s = true := by
  obtain ⟨cf, kf, fi, f, a, cell, h1, h2, h3, h4, h5, h6, h7, -⟩ := h
  have he : (Term.static C n d).eval args s none [] s = some v := by
    simp [Term.eval, State.fieldNamed?, h1, h2, h4, h5, h6, h7]
  simp only [Cond.before, Cond.holds, Cond.value, he]
  cases v <;> simp_all [Value.isRef]
theorem vx_isRefq {C n d : String} {A : Nat → Prop} {s : State} {args : Array Value} (h : va_Zq C n d A s s.heap) : (Cond.isRef (.static C n d)).before args s = true := by
  rcases h with h | ⟨t, h⟩
  · exact vx_isRef h rfl
  · exact vx_isRef h rfl
/-- the same frame, seen from here: as if the method were called anew in this heap -/
theorem vx_rebase {T : State} (X : Stand p l e R s m args below meth c T locs cells slots) {R' : Room} (hf : R'.frames ≤ R.frames) (hl : R'.locals ≤ R.locals) (hc : cells + R'.cells ≤ R.cells) (hs : slots + R'.slots ≤ R.slots) :
    Stand p l e R' ((T.setVm s.vm).setFrames (.invoking m args :: below)) m args below meth c T [] 0 0 := by
  have htop : (T.setVm s.vm).topJava?.isSome := X.here.top
  have hF : ((T.setVm s.vm).setFrames (.invoking m args :: below)).frames = .invoking m args :: below := State.frames_setFrames _ (State.cur_lt_of_top htop)
  obtain ⟨g₀, hg0⟩ := Option.isSome_iff_exists.mp htop
  obtain ⟨r, hr⟩ := State.topJava?_eq_some.mp hg0
  have hl9 : e.platform.stackLimits (T.setVm s.vm).me = e.platform.stackLimits s.me := X.limits
  have hb9 : (T.setVm s.vm).me.stackBytes = s.me.stackBytes := X.bytes
  refine ⟨X.admits, X.cas, X.clock, hF, ?_, X.hears, X.method, X.code, X.here, X.tail, X.warmed, ?_, ?_, ?_⟩
  · have h := X.room
    have hU : ((T.setVm s.vm).setFrames (.invoking m args :: below)).localsInUse = s.localsInUse := by
      rw [State.localsInUse_invoking hF (meth := meth) (c := c) X.method X.code, State.localsInUse_invoking X.frames X.method X.code]
    simp only [State.hasRoom, Bool.and_eq_true, decide_eq_true_eq] at h ⊢
    obtain ⟨⟨⟨⟨h1, h2, h3, h4, h5, h6⟩, h7⟩, h8⟩, h9⟩ := h
    rw [X.frames, List.length_cons] at h2 h3
    have q1 := X.heapSize
    have q2 := X.used
    simp only [hF, hU, List.length_cons, State.stackLimits_setFrames, State.stackBytes_setFrames, hl9, hb9]
    refine ⟨⟨⟨⟨by omega, by omega, by omega, by omega, by omega, h6⟩, ?_⟩, ?_⟩, X.book⟩
    · show T.heap.size + R'.cells ≤ e.platform.maxCells
      omega
    · show T.slotsUsed + R'.slots ≤ e.platform.maxSlots
      omega
  · rw [State.stackLimits_setFrames]; rfl
  · rw [State.stackBytes_setFrames]; rfl
  · refine ⟨?_, Nat.le_refl _, Nat.le_refl _, ?_, ?_, fun a c9 h9 => ⟨c9, h9, rfl, rfl, fun _ _ => rfl⟩⟩
    · obtain ⟨t, ht, -⟩ := State.frames_cons hr
      show T.setVm s.vm = { ((T.setVm s.vm).setFrames (.invoking m args :: below)).setFrames (T.setVm s.vm).frames with heap := T.heap, slotsUsed := T.slotsUsed }
      rw [State.setFrames_setFrames, State.setFrames_self ht]
      rfl
    · show T.slotsUsed = T.slotsUsed + ((T.heap.toList.drop T.heap.size).map (·.slots.size)).sum
      rw [List.drop_eq_nil_of_le (Nat.le_of_eq Array.length_toList)]
      rfl
    · show ((T.heap.toList.drop T.heap.size).map (·.slots.size)).sum ≤ 0
      rw [List.drop_eq_nil_of_le (Nat.le_of_eq Array.length_toList)]
      exact Nat.le_refl _
/-- 'throw new E()': new; dup; invokespecial; athrow -/
theorem vx_throw0 {cc : ByteArray} {pc : Nat} (hexec : p.tables.exec = Jvm.exec) (hb : c.code = cc) (hl : l.stackTraces = false) {own cls : String} {names : List String} {ik ic mc ms : Nat} {A : Nat → Prop}
    (hown : s.vm.findClass own = some m.cls) (hcls : Bundle.fit cls = true) (hnames : ∀ n ∈ names, Bundle.fit n = true)
    (hk : (Cond.classLink own ik cls).before args s = true) (hini : (Cond.initialized cls).before args s = true) (hat : ∀ w ∈ vx_at0 own ic cls names, w.before args s = true)
    (hgood : ∀ w ∈ Cond.classLink own ik cls :: Cond.initialized cls :: vx_at0 own ic cls names, vx_ot w = true)
    (hU : vx_Zq Bundle.tN "UNASSIGNED_STACK" Bundle.steD A s s.heap) (hN : vx_Zq Bundle.tN "SUPPRESSED_SENTINEL" Bundle.listD A s s.heap) (hS : va_S A s.heap H locs) (hsize : ls.size = c.maxLocals)
    (d0 : decode cc pc = .ok (.new ik, 3)) (d3 : decode cc (pc + 3) = .ok (.dup, 1)) (d4 : decode cc (pc + 4) = .ok (.invokespecial ic, 3)) (d7 : decode cc (pc + 7) = .ok (.athrow, 1))
    (hout : ∀ x ∈ c.exceptionTable.toList, covers x (pc + 7) = false)
    (hRframes : names.length + 3 < R.frames) (hRlocals : (rest.map fun v => v.category).sum + (13 * (names.length + 1) + 42) ≤ R.locals) (hRcells : cells + 1 ≤ R.cells) (hRslots : slots + 6 ≤ R.slots) (hlocks : meth.locks = false)
    (hx : ∀ t : State, s.vm.Alike t.vm → H.size ≤ t.heap.size → (∀ q : Nat, q < H.size → t.heap[q]? = H[q]?) → XC cls s t)
    (hf : ∀ z ∈ locs, free z.base) (hc : cells + 1 ≤ mc) (hs : slots + 6 ≤ ms) :
    W p l e R s m args below meth c H locs cells slots (vx_MQ below Qc XC args s mc ms free) (F0 m pc ls rest) := by
  intro T hT X
  have htr : e.platform.stackTraces = false := (show e.platform.stackTraces = l.stackTraces by rw [X.admits.platform]).trans hl
  have Y := vx_rebase X (R' := { frames := R.frames, locals := R.locals, cells := 1, slots := 6 }) (Nat.le_refl _) (Nat.le_refl _) hRcells hRslots
  obtain ⟨s', hA⟩ : ∃ z, z = (T.setVm s.vm).setFrames (.invoking m args :: below) := ⟨_, rfl⟩
  rw [← hA] at Y
  have hvm : s'.vm = s.vm := by rw [hA]; rfl
  have hhp : s'.heap = H := by rw [hA]; exact hT
  have hW0 : s.WarmedH s'.vm := by rw [hvm]; exact State.WarmedH.refl s
  have hat' : ∀ w ∈ vx_at0 own ic cls names, w.before args s' = true := fun w hw => vx_ot_at hW0 hvm.symm (hgood w (List.mem_cons_of_mem _ (List.mem_cons_of_mem _ hw))) (hat w hw)
  have hk' : (Cond.classLink own ik cls).before args s' = true := vx_ot_at hW0 hvm.symm (hgood _ List.mem_cons_self) hk
  have hini' : (Cond.initialized cls).before args s' = true := vx_ot_at hW0 hvm.symm (hgood _ (List.mem_cons_of_mem _ List.mem_cons_self)) hini
  have hU' : vx_Zq Bundle.tN "UNASSIGNED_STACK" Bundle.steD A s' s'.heap := by rw [hhp]; exact vx_Zq.moved hW0.alike (hU.kept hS.2.1)
  have hN' : vx_Zq Bundle.tN "SUPPRESSED_SENTINEL" Bundle.listD A s' s'.heap := by rw [hhp]; exact vx_Zq.moved hW0.alike (hN.kept hS.2.1)
  have h : ∀ w ∈ Bundle.ownAtoms0 own ic cls names, w.before args s' = true := vx_own hat' (vx_isRefq hU'.1) (vx_isRefq hN'.1) hU'.2.word hN'.2.word
  have hown' : s'.vm.findClass own = some m.cls := by rw [hvm]; exact hown
  have hins : (Cond.instantiable cls 6).before args s' = true := h _ (by simp [Bundle.ownAtoms0])
  obtain ⟨vm₁, cX, kX, hfX, hkX, -, -, X₁, st1⟩ := Y.newCold hexec (own := own) (C := cls) (index := ik) (n := 6) hown' hk' hins hini'
    (g := F0 m pc ls rest) rfl (by rw [hb]; exact d0) (Nat.le_refl _) (Nat.le_refl _)
  generalize hT1 : (T.setVm vm₁).pushCell { cls := cX, slots := kX.instanceTypes.map defaultValue, vm := .none } = T1 at X₁ st1
  have hcat : (Value.ref T.heap.size).category = 1 := rfl
  have hcellA : T1.heap[T.heap.size]? = some (freshCell cX kX) := by rw [← hT1]; exact State.heap_pushCell_size _ _
  have d3' : decode c.code (pc + 3) = .ok (.dup, 1) := by rw [hb]; exact d3
  obtain ⟨U, hsteps, hrun, hend, hW, hsame, ce, hce, hO⟩ := X₁.ctorThrow0 hexec htr (own := own) (cls := cls) (names := names) (ic := ic) hown' hcls hnames h (fun x hx => nomatch hx) hfX hkX hcellA (by rw [hhp, hT]; exact Nat.le_refl _)
    (g := { method := m, pc := pc + 4, locals := ls, stack := .ref T.heap.size :: .ref T.heap.size :: rest, locked := none }) rfl hsize rfl rfl (rest := rest) rfl
    (by rw [hb]; exact d4) (by rw [hb]; exact d7) hout hRframes (by simp only [List.map_cons, List.sum_cons, hcat]; omega) hlocks
  obtain ⟨f1, f2⟩ := vx_frame hsame
  rw [hhp] at f1 f2
  have hWs : s.WarmedH U.vm := State.WarmedH.trans hW0 hW
  have hcl : s.vm.findClass cls = some ce.cls := by
    have h9 := hO.cls
    rw [hvm] at h9
    exact h9
  have hall : s.sameButNew ({ U with vm := s.vm } : State) locs mc ms := by
    subst hA
    obtain ⟨e1, e2⟩ := hsame
    rw [State.setFrames_setFrames] at e1
    have h2 : (T.setVm s.vm).sameButNew ({ U with vm := s.vm } : State) [] (0 + 1) (0 + 6) := ⟨e1, e2⟩
    have h3 := X.same.trans h2
    rw [List.append_nil] at h3
    exact h3.mono hc hs
  refine ⟨U, ?_, .threw T.heap.size, hrun, hend, Or.inr ⟨T.heap.size, rfl, cls, ce, locs, hx U hWs.alike f1 (fun q hq => f2 q hq (fun z hz => nomatch hz)), hce, hO.vm, hcl, hWs, hall, hf⟩⟩
  refine st1 _ ?_
  show Steps p.tables e below (T1.setTop { method := m, pc := pc + 3, locals := ls, stack := .ref T.heap.size :: rest, locked := none }) _
  jvm_step X₁.here [X₁.here.top, hexec, d3', Value.category]
  exact hsteps
/-- 'throw new E("text")': new; dup; ldc; invokespecial; athrow -/
theorem vx_throwS {cc : ByteArray} {pc : Nat} (hexec : p.tables.exec = Jvm.exec) (hb : c.code = cc) (hl : l.stackTraces = false) {own cls text : String} {names : List String} {ik is ic mc ms sa : Nat} {A : Nat → Prop}
    (hown : s.vm.findClass own = some m.cls) (hcls : Bundle.fit cls = true) (hnames : ∀ n ∈ names, Bundle.fit n = true)
    (hk : (Cond.classLink own ik cls).before args s = true) (hini : (Cond.initialized cls).before args s = true) (hstr : vk_R own is text sa s) (hat : ∀ w ∈ vx_atS own ic cls names, w.before args s = true)
    (hgood : ∀ w ∈ Cond.classLink own ik cls :: Cond.initialized cls :: vx_atS own ic cls names, vx_ot w = true)
    (hU : vx_Zq Bundle.tN "UNASSIGNED_STACK" Bundle.steD A s s.heap) (hN : vx_Zq Bundle.tN "SUPPRESSED_SENTINEL" Bundle.listD A s s.heap) (hS : va_S A s.heap H locs) (hsize : ls.size = c.maxLocals)
    (d0 : decode cc pc = .ok (.new ik, 3)) (d3 : decode cc (pc + 3) = .ok (.dup, 1)) (d4 : decode cc (pc + 4) = .ok (.ldc is, 2)) (d6 : decode cc (pc + 6) = .ok (.invokespecial ic, 3)) (d9 : decode cc (pc + 9) = .ok (.athrow, 1))
    (hout : ∀ x ∈ c.exceptionTable.toList, covers x (pc + 9) = false)
    (hRframes : names.length + 3 < R.frames) (hRlocals : (rest.map fun v => v.category).sum + (13 * (names.length + 1) + 43) ≤ R.locals) (hRcells : cells + 1 ≤ R.cells) (hRslots : slots + 6 ≤ R.slots) (hlocks : meth.locks = false)
    (hx : ∀ t : State, s.vm.Alike t.vm → H.size ≤ t.heap.size → (∀ q : Nat, q < H.size → t.heap[q]? = H[q]?) → XC cls s t)
    (hf : ∀ z ∈ locs, free z.base) (hc : cells + 1 ≤ mc) (hs : slots + 6 ≤ ms) :
    W p l e R s m args below meth c H locs cells slots (vx_MQ below Qc XC args s mc ms free) (F0 m pc ls rest) := by
  intro T hT X
  have htr : e.platform.stackTraces = false := (show e.platform.stackTraces = l.stackTraces by rw [X.admits.platform]).trans hl
  have Y := vx_rebase X (R' := { frames := R.frames, locals := R.locals, cells := 1, slots := 6 }) (Nat.le_refl _) (Nat.le_refl _) hRcells hRslots
  obtain ⟨s', hA⟩ : ∃ z, z = (T.setVm s.vm).setFrames (.invoking m args :: below) := ⟨_, rfl⟩
  rw [← hA] at Y
  have hvm : s'.vm = s.vm := by rw [hA]; rfl
  have hhp : s'.heap = H := by rw [hA]; exact hT
  have hW0 : s.WarmedH s'.vm := by rw [hvm]; exact State.WarmedH.refl s
  have hat' : ∀ w ∈ vx_atS own ic cls names, w.before args s' = true := fun w hw => vx_ot_at hW0 hvm.symm (hgood w (List.mem_cons_of_mem _ (List.mem_cons_of_mem _ hw))) (hat w hw)
  have hk' : (Cond.classLink own ik cls).before args s' = true := vx_ot_at hW0 hvm.symm (hgood _ List.mem_cons_self) hk
  have hini' : (Cond.initialized cls).before args s' = true := vx_ot_at hW0 hvm.symm (hgood _ (List.mem_cons_of_mem _ List.mem_cons_self)) hini
  have hU' : vx_Zq Bundle.tN "UNASSIGNED_STACK" Bundle.steD A s' s'.heap := by rw [hhp]; exact vx_Zq.moved hW0.alike (hU.kept hS.2.1)
  have hN' : vx_Zq Bundle.tN "SUPPRESSED_SENTINEL" Bundle.listD A s' s'.heap := by rw [hhp]; exact vx_Zq.moved hW0.alike (hN.kept hS.2.1)
  have h : ∀ w ∈ Bundle.ownAtoms own ic cls names, w.before args s' = true := vx_own hat' (vx_isRefq hU'.1) (vx_isRefq hN'.1) hU'.2.word hN'.2.word
  have hown' : s'.vm.findClass own = some m.cls := by rw [hvm]; exact hown
  have hins : (Cond.instantiable cls 6).before args s' = true := h _ (by simp [Bundle.ownAtoms])
  obtain ⟨vm₁, cX, kX, hfX, hkX, -, -, X₁, st1⟩ := Y.newCold hexec (own := own) (C := cls) (index := ik) (n := 6) hown' hk' hins hini'
    (g := F0 m pc ls rest) rfl (by rw [hb]; exact d0) (Nat.le_refl _) (Nat.le_refl _)
  generalize hT1 : (T.setVm vm₁).pushCell { cls := cX, slots := kX.instanceTypes.map defaultValue, vm := .none } = T1 at X₁ st1
  have hcat : (Value.ref T.heap.size).category = 1 := rfl
  have hcellA : T1.heap[T.heap.size]? = some (freshCell cX kX) := by rw [← hT1]; exact State.heap_pushCell_size _ _
  have d3' : decode c.code (pc + 3) = .ok (.dup, 1) := by rw [hb]; exact d3
  have d4' : decode c.code (pc + 4) = .ok (.ldc is, 2) := by rw [hb]; exact d4
  have hstr' : vk_R own is text sa s' := vk_R.warm hW0 hstr
  obtain ⟨U, hsteps, hrun, hend, hW, hsame, ce, hce, hO⟩ := X₁.ctorThrowS hexec htr (own := own) (cls := cls) (names := names) (ic := ic) hown' hcls hnames h (fun x hx => nomatch hx) hfX hkX hcellA (by rw [hhp, hT]; exact Nat.le_refl _) (msg := .ref sa) rfl
    (g := { method := m, pc := pc + 6, locals := ls, stack := .ref sa :: .ref T.heap.size :: .ref T.heap.size :: rest, locked := none }) rfl hsize rfl rfl (rest := rest) rfl
    (by rw [hb]; exact d6) (by rw [hb]; exact d9) hout hRframes (by simp only [List.map_cons, List.sum_cons, hcat]; omega) hlocks
  obtain ⟨f1, f2⟩ := vx_frame hsame
  rw [hhp] at f1 f2
  have hWs : s.WarmedH U.vm := State.WarmedH.trans hW0 hW
  have hcl : s.vm.findClass cls = some ce.cls := by
    have h9 := hO.cls
    rw [hvm] at h9
    exact h9
  have hall : s.sameButNew ({ U with vm := s.vm } : State) locs mc ms := by
    subst hA
    obtain ⟨e1, e2⟩ := hsame
    rw [State.setFrames_setFrames] at e1
    have h2 : (T.setVm s.vm).sameButNew ({ U with vm := s.vm } : State) [] (0 + 1) (0 + 6) := ⟨e1, e2⟩
    have h3 := X.same.trans h2
    rw [List.append_nil] at h3
    exact h3.mono hc hs
  refine ⟨U, ?_, .threw T.heap.size, hrun, hend, Or.inr ⟨T.heap.size, rfl, cls, ce, locs, hx U hWs.alike f1 (fun q hq => f2 q hq (fun z hz => nomatch hz)), hce, hO.vm, hcl, hWs, hall, hf⟩⟩
  refine st1 _ ?_
  show Steps p.tables e below (T1.setTop { method := m, pc := pc + 3, locals := ls, stack := .ref T.heap.size :: rest, locked := none }) _
  jvm_step X₁.here [X₁.here.top, hexec, d3', Value.category]
  exact X₁.ldcString hexec (own := own) (text := text) (index := is) (a := sa) hown' hstr'.1 hstr'.2
    (g := { method := m, pc := pc + 4, locals := ls, stack := .ref T.heap.size :: .ref T.heap.size :: rest, locked := none }) rfl d4' _ hsteps
/-- 'throw new E("text")', the text by a wide index -/
theorem vx_throwSW {cc : ByteArray} {pc : Nat} (hexec : p.tables.exec = Jvm.exec) (hb : c.code = cc) (hl : l.stackTraces = false) {own cls text : String} {names : List String} {ik is ic mc ms sa : Nat} {A : Nat → Prop}
    (hown : s.vm.findClass own = some m.cls) (hcls : Bundle.fit cls = true) (hnames : ∀ n ∈ names, Bundle.fit n = true)
    (hk : (Cond.classLink own ik cls).before args s = true) (hini : (Cond.initialized cls).before args s = true) (hstr : vk_R own is text sa s) (hat : ∀ w ∈ vx_atS own ic cls names, w.before args s = true)
    (hgood : ∀ w ∈ Cond.classLink own ik cls :: Cond.initialized cls :: vx_atS own ic cls names, vx_ot w = true)
    (hU : vx_Zq Bundle.tN "UNASSIGNED_STACK" Bundle.steD A s s.heap) (hN : vx_Zq Bundle.tN "SUPPRESSED_SENTINEL" Bundle.listD A s s.heap) (hS : va_S A s.heap H locs) (hsize : ls.size = c.maxLocals)
    (d0 : decode cc pc = .ok (.new ik, 3)) (d3 : decode cc (pc + 3) = .ok (.dup, 1)) (d4 : decode cc (pc + 4) = .ok (.ldc_w is, 3)) (d7 : decode cc (pc + 7) = .ok (.invokespecial ic, 3)) (d10 : decode cc (pc + 10) = .ok (.athrow, 1))
    (hout : ∀ x ∈ c.exceptionTable.toList, covers x (pc + 10) = false)
    (hRframes : names.length + 3 < R.frames) (hRlocals : (rest.map fun v => v.category).sum + (13 * (names.length + 1) + 43) ≤ R.locals) (hRcells : cells + 1 ≤ R.cells) (hRslots : slots + 6 ≤ R.slots) (hlocks : meth.locks = false)
    (hx : ∀ t : State, s.vm.Alike t.vm → H.size ≤ t.heap.size → (∀ q : Nat, q < H.size → t.heap[q]? = H[q]?) → XC cls s t)
    (hf : ∀ z ∈ locs, free z.base) (hc : cells + 1 ≤ mc) (hs : slots + 6 ≤ ms) :
    W p l e R s m args below meth c H locs cells slots (vx_MQ below Qc XC args s mc ms free) (F0 m pc ls rest) := by
  intro T hT X
  have htr : e.platform.stackTraces = false := (show e.platform.stackTraces = l.stackTraces by rw [X.admits.platform]).trans hl
  have Y := vx_rebase X (R' := { frames := R.frames, locals := R.locals, cells := 1, slots := 6 }) (Nat.le_refl _) (Nat.le_refl _) hRcells hRslots
  obtain ⟨s', hA⟩ : ∃ z, z = (T.setVm s.vm).setFrames (.invoking m args :: below) := ⟨_, rfl⟩
  rw [← hA] at Y
  have hvm : s'.vm = s.vm := by rw [hA]; rfl
  have hhp : s'.heap = H := by rw [hA]; exact hT
  have hW0 : s.WarmedH s'.vm := by rw [hvm]; exact State.WarmedH.refl s
  have hat' : ∀ w ∈ vx_atS own ic cls names, w.before args s' = true := fun w hw => vx_ot_at hW0 hvm.symm (hgood w (List.mem_cons_of_mem _ (List.mem_cons_of_mem _ hw))) (hat w hw)
  have hk' : (Cond.classLink own ik cls).before args s' = true := vx_ot_at hW0 hvm.symm (hgood _ List.mem_cons_self) hk
  have hini' : (Cond.initialized cls).before args s' = true := vx_ot_at hW0 hvm.symm (hgood _ (List.mem_cons_of_mem _ List.mem_cons_self)) hini
  have hU' : vx_Zq Bundle.tN "UNASSIGNED_STACK" Bundle.steD A s' s'.heap := by rw [hhp]; exact vx_Zq.moved hW0.alike (hU.kept hS.2.1)
  have hN' : vx_Zq Bundle.tN "SUPPRESSED_SENTINEL" Bundle.listD A s' s'.heap := by rw [hhp]; exact vx_Zq.moved hW0.alike (hN.kept hS.2.1)
  have h : ∀ w ∈ Bundle.ownAtoms own ic cls names, w.before args s' = true := vx_own hat' (vx_isRefq hU'.1) (vx_isRefq hN'.1) hU'.2.word hN'.2.word
  have hown' : s'.vm.findClass own = some m.cls := by rw [hvm]; exact hown
  have hins : (Cond.instantiable cls 6).before args s' = true := h _ (by simp [Bundle.ownAtoms])
  obtain ⟨vm₁, cX, kX, hfX, hkX, -, -, X₁, st1⟩ := Y.newCold hexec (own := own) (C := cls) (index := ik) (n := 6) hown' hk' hins hini'
    (g := F0 m pc ls rest) rfl (by rw [hb]; exact d0) (Nat.le_refl _) (Nat.le_refl _)
  generalize hT1 : (T.setVm vm₁).pushCell { cls := cX, slots := kX.instanceTypes.map defaultValue, vm := .none } = T1 at X₁ st1
  have hcat : (Value.ref T.heap.size).category = 1 := rfl
  have hcellA : T1.heap[T.heap.size]? = some (freshCell cX kX) := by rw [← hT1]; exact State.heap_pushCell_size _ _
  have d3' : decode c.code (pc + 3) = .ok (.dup, 1) := by rw [hb]; exact d3
  have d4' : decode c.code (pc + 4) = .ok (.ldc_w is, 3) := by rw [hb]; exact d4
  have hstr' : vk_R own is text sa s' := vk_R.warm hW0 hstr
  obtain ⟨U, hsteps, hrun, hend, hW, hsame, ce, hce, hO⟩ := X₁.ctorThrowS hexec htr (own := own) (cls := cls) (names := names) (ic := ic) hown' hcls hnames h (fun x hx => nomatch hx) hfX hkX hcellA (by rw [hhp, hT]; exact Nat.le_refl _) (msg := .ref sa) rfl
    (g := { method := m, pc := pc + 7, locals := ls, stack := .ref sa :: .ref T.heap.size :: .ref T.heap.size :: rest, locked := none }) rfl hsize rfl rfl (rest := rest) rfl
    (by rw [hb]; exact d7) (by rw [hb]; exact d10) hout hRframes (by simp only [List.map_cons, List.sum_cons, hcat]; omega) hlocks
  obtain ⟨f1, f2⟩ := vx_frame hsame
  rw [hhp] at f1 f2
  have hWs : s.WarmedH U.vm := State.WarmedH.trans hW0 hW
  have hcl : s.vm.findClass cls = some ce.cls := by
    have h9 := hO.cls
    rw [hvm] at h9
    exact h9
  have hall : s.sameButNew ({ U with vm := s.vm } : State) locs mc ms := by
    subst hA
    obtain ⟨e1, e2⟩ := hsame
    rw [State.setFrames_setFrames] at e1
    have h2 : (T.setVm s.vm).sameButNew ({ U with vm := s.vm } : State) [] (0 + 1) (0 + 6) := ⟨e1, e2⟩
    have h3 := X.same.trans h2
    rw [List.append_nil] at h3
    exact h3.mono hc hs
  refine ⟨U, ?_, .threw T.heap.size, hrun, hend, Or.inr ⟨T.heap.size, rfl, cls, ce, locs, hx U hWs.alike f1 (fun q hq => f2 q hq (fun z hz => nomatch hz)), hce, hO.vm, hcl, hWs, hall, hf⟩⟩
  refine st1 _ ?_
  show Steps p.tables e below (T1.setTop { method := m, pc := pc + 3, locals := ls, stack := .ref T.heap.size :: rest, locked := none }) _
  jvm_step X₁.here [X₁.here.top, hexec, d3', Value.category]
  exact X₁.ldcStringW hexec (own := own) (text := text) (index := is) (a := sa) hown' hstr'.1 hstr'.2
    (g := { method := m, pc := pc + 4, locals := ls, stack := .ref T.heap.size :: .ref T.heap.size :: rest, locked := none }) rfl d4' _ hsteps
end Ends
section Bodies
variable {l : Launch}
theorem vx_ofW {y : MethodName} {ws ws' : List Cond} {rm : Room} {Pc : Array Value → State → Prop} {Qc : Array Value → State → Outcome → State → Prop} {XC : String → State → State → Prop} {mc ms : Nat} {free : Addr → Prop} {cc : ByteArray} {maxL : Nat} {ret : Option FieldType}
    (hy : plainName y.cls = true) (hw : ws = Cond.code y cc maxL ret :: ws')
    (body : ∀ p e s m args below meth c s₁, BodyLoose p l y (headSpec ws rm) cc maxL ret e s m args below meth c s₁ → c.maxLocals = maxL → (∀ x ∈ c.exceptionTable.toList, False) → Pc args s →
      W p l e (headSpec ws rm).room s m args below meth c s.heap [] 0 0 (vx_MQ below Qc XC args s mc ms free) (entryFrame m args maxL)) : vx_Met l y ws rm Pc Qc XC mc ms free := by
  refine MetFree.of_bodyS (code := cc) (maxLocals := maxL) (ret := ret) hy ?_ ?_
  · intro args s m h hn
    obtain ⟨meth, c, h1, h2, h3, h4, h5, h6, -, -⟩ := Cond.code_spec hn (atoms_spec (ws := ws) h _ (by rw [hw]; exact List.mem_cons_self))
    exact ⟨meth, c, h1, h2, h3, h4, h5, h6⟩
  · intro p e s m args below meth c s₁ B hml hP _
    have hh0 : s₁.heap = s.heap := by rw [B.state]; rfl
    have ht : ∀ x ∈ c.exceptionTable.toList, False := by
      obtain ⟨meth9, c9, h1, h2, -, -, -, -, h7, -⟩ := Cond.code_spec B.named (atoms_spec (ws := ws) B.pre _ (by rw [hw]; exact List.mem_cons_self))
      cases Option.some.inj (h1.symm.trans B.method)
      cases Option.some.inj (h2.symm.trans (Stand.of_body B).code)
      intro x hx
      rw [Array.isEmpty_iff.mp h7] at hx
      cases hx
    obtain ⟨t, a1, o, b1, b2, b3⟩ := body p e s m args below meth c s₁ B hml ht hP s₁ hh0 (Stand.of_body B)
    exact ⟨t, o, a1, b1, b2, b3⟩
/-- the table of a body with handlers -/
theorem vx_table {p : Program} {x y : MethodName} {S : Spec} {cc bytes : ByteArray} {maxL maxL' : Nat} {ret ret' : Option FieldType} {e : Env} {s s₁ : State} {m : MethodId} {args : Array Value} {below : List Frame} {meth : Method} {c : Code} {hh : List (Nat × Nat × Nat × Nat)}
    (B : BodyLoose p l y S cc maxL ret e s m args below meth c s₁) (h : (Cond.codeWith y bytes maxL' ret' hh).before args s = true) : c.exceptionTable.toList = tableOf hh := by
  obtain ⟨m9, meth9, c9, hn9, h1, h2, -, -, h6, -⟩ := Cond.codeWith_spec h
  cases Option.some.inj (hn9.symm.trans B.named)
  cases Option.some.inj (h1.symm.trans B.method)
  cases Option.some.inj (h2.symm.trans (Stand.of_body B).code)
  rw [← h6, table_eq]
end Bodies
end VXA
/-! ===== END ===== -/
/-! ===== BEGIN a static call of a method with an exception table ===== -/
section VXS
variable {p : Program} {l : Launch} {e : Env} {R : Room} {s : State} {m : MethodId} {args : Array Value} {below : List Frame} {meth : Method} {c : Code} {T : State} {H : Heap} {locs : List Loc} {cells slots : Nat}
abbrev vx_CSW (R : Room) (s : State) (args : Array Value) (own : String) (index : Nat) (y : MethodName) (bytes : ByteArray) (maxL : Nat) (ret : Option FieldType) (hh : List (Nat × Nat × Nat × Nat)) (ws : List Cond) (rm : Room) (mc ms n : Nat) : Prop :=
  (rm.cells = mc ∧ rm.slots = ms ∧ rm.frames + 1 ≤ R.frames ∧ 8 + (maxL + 11) + rm.locals ≤ R.locals ∧ (∀ w ∈ ws, ∀ (a' : Array Value) (U : State), s.WarmedH U.vm → w.before a' U = true) ∧ Cond.codeWith y bytes maxL ret hh ∈ ws) ∧
  (Cond.codeWith y bytes maxL ret hh).before args s = true ∧ (Cond.initialized y.cls).before args s = true ∧ (y.cls ≠ "java/lang/invoke/MethodHandle" ∧ y.cls ≠ "java/lang/invoke/VarHandle") ∧
  (∀ sig, parseMethodDescriptor y.desc = some sig → n = sig.parameters.length) ∧ (Cond.methodLink own index y).before args s = true ∧ (Cond.static y).before args s = true
theorem vx_cwSW {own : String} {index maxL mc ms : Nat} {y : MethodName} {bytes : ByteArray} {ret : Option FieldType} {hh : List (Nat × Nat × Nat × Nat)} {Ts ws ws' : List Cond} {rm : Room} (n : Nat) (ht : ∀ w ∈ Ts, w.before args s = true) (hT : GoodIn Ts (va_wsS own index y ws)) (hw : ws = Cond.codeWith y bytes maxL ret hh :: ws') (hrc : rm.cells = mc) (hrs : rm.slots = ms)
    (hd : y.cls ≠ "java/lang/invoke/MethodHandle" ∧ y.cls ≠ "java/lang/invoke/VarHandle" ∧ (parseMethodDescriptor y.desc).map (fun d => d.parameters.length) = some n) (hR : rm.frames + 1 ≤ R.frames ∧ 8 + (maxL + 11) + rm.locals ≤ R.locals) :
    vx_CSW R s args own index y bytes maxL ret hh ws rm mc ms n := by
  have ok : ∀ w ∈ va_wsS own index y ws, w.before args s = true := fun w h => ht w (hT w h).1
  have hG : GoodIn Ts ws := fun w h => hT w (by unfold va_wsS; exact List.mem_append_right _ h)
  have hc : Cond.codeWith y bytes maxL ret hh ∈ ws := by rw [hw]; exact List.mem_cons_self
  refine ⟨⟨hrc, hrs, hR.1, hR.2, pay_in ht hG, hc⟩, ht _ (hG _ hc).1, ok _ (by simp [va_wsS]), ⟨hd.1, hd.2.1⟩, fun sig h => ?_, ok _ (by simp [va_wsS]), ok _ (by simp [va_wsS])⟩
  have h2 := hd.2.2
  rw [h] at h2
  exact (Option.some.inj h2).symm
theorem vx_callSW (X : Stand p l e R s m args below meth c T locs cells slots) (hexec : p.tables.exec = Jvm.exec) {own : String} {index : Nat} {y : MethodName} {bytes : ByteArray} {maxL : Nat} {ret : Option FieldType} {hh : List (Nat × Nat × Nat × Nat)}
    (hown : s.vm.findClass own = some m.cls) (hlink : (Cond.methodLink own index y).before args s = true) (hstat : (Cond.static y).before args s = true) (hinit : (Cond.initialized y.cls).before args s = true)
    (hcode : (Cond.codeWith y bytes maxL ret hh).before args s = true) (hy : y.cls ≠ "java/lang/invoke/MethodHandle" ∧ y.cls ≠ "java/lang/invoke/VarHandle")
    {W9 : Nat} {Pre : Pt → Array Value → Prop} {Post : Pt → Array Value → Option Value → Pt → Prop} (hK : Back l R p e below s args y 3 W9 Pre Post)
    {g : JFrame} (hg : g.method = m) (hsize : g.locals.size = c.maxLocals) {argsL rest : List Value} (hlen : ∀ sig, parseMethodDescriptor y.desc = some sig → argsL.length = sig.parameters.length)
    (hstack : g.stack = argsL.reverse ++ rest) (hW : 2 * g.monitorRoom + (rest.map fun v => v.category).sum ≤ W9) (hdg : decode c.code g.pc = .ok (.invokestatic index, 3))
    (hpre : ∀ vm₁, s.WarmedH vm₁ → Pre ⟨T.setVm vm₁, locs, cells, slots⟩ argsL.toArray) :
    ∃ (v : Option Value) (vm₁ : Vm) (B : Pt), s.WarmedH vm₁ ∧ Stand p l e R s m args below meth c B.U B.locs B.cells B.slots ∧ Post ⟨T.setVm vm₁, locs, cells, slots⟩ argsL.toArray v B ∧
      ∀ target, Steps p.tables e below (B.U.setTop { g with pc := g.pc + 3, stack := v.toList ++ rest }) target → Steps p.tables e below (T.setTop g) target := by
  obtain ⟨mk, methM, cM, hnamed, hmethM, -, -, -, -, -, -, hsigM⟩ := Cond.codeWith_spec hcode
  have hstatic : methM.isStatic = true := Cond.static_spec hnamed hmethM hstat
  obtain ⟨kP, hkP, -⟩ := className_of_methodNamed hnamed
  have hinitP : kP.init = .initialized := Cond.initialized_spec (findClass_of_methodNamed hnamed) hkP hinit
  obtain ⟨vm₁, X₁, hstep₁⟩ := X.invokestatic hexec hown hlink hnamed hmethM hstatic hkP hinitP hy (g := g) hg (argsL := argsL) (rest := rest) (hlen _ hsigM) hstack hdg
  obtain ⟨v, B, X', hpost, hsteps⟩ := hK m meth c ⟨T.setVm vm₁, locs, cells, slots⟩ { g with stack := rest } (.invokestatic index) mk argsL.toArray X₁ hg hsize hdg hW (X₁.named hnamed) (hpre vm₁ X₁.warmed)
  exact ⟨v, vm₁, B, X₁.warmed, X', hpost, fun target h => hstep₁ _ fun acts => by rw [doInvoke_state]; exact hsteps.trans h⟩
theorem vx_runSW {y : MethodName} {bytes cc : ByteArray} {maxL nL mc ms n index : Nat} {ret : Option FieldType} {hh : List (Nat × Nat × Nat × Nat)} {ws : List Cond} {rm : Room} {Pc : Array Value → State → Prop} {Qc : Array Value → State → Outcome → State → Prop} {free : Addr → Prop} {Ts : List Cond} {own : String} {As rest : List Value} {g : JFrame}
    (S : CallFix p m c cc nL s args Ts own) (hM : Met l y ws rm Pc Qc mc ms free) (cw : vx_CSW R s args own index y bytes maxL ret hh ws rm mc ms n) (hp : PreS s H Pc As)
    (hg : g.method = m) (hn : As.length = n) (hsize : g.locals.size = nL) (hstack : g.stack = As.reverse ++ rest) (hW : 2 * g.monitorRoom + (rest.map fun v => v.category).sum ≤ 8) (hdg : decode cc g.pc = .ok (.invokestatic index, 3)) (hf : cells + mc ≤ R.cells ∧ slots + ms ≤ R.slots) :
    va_Run p l e R s m args below meth c H locs cells slots mc ms g rest (Qc As.toArray) (free) := by
  obtain ⟨⟨hrc, hrs, hfr, hlo, hws, hcw⟩, hcode, hini, hy, hlen, hl, hstt⟩ := cw
  have hK : Back l R p e below s args y 3 8 (PreOf R mc ms Pc) (PostOf Qc mc ms free) := va_backW (hh := hh) (bytes := bytes) (maxL := maxL) (ret := ret) hM hp.1 hrc hrs hfr hlo hws hcw (fun a' U hW => word_at hW (Or.inl (by first | rfl | simp [Cond.onTables, Cond.keeps, Cond.steady])) hini)
  obtain ⟨hx, hb, hml, ho, -⟩ := S
  intro T hT X
  obtain ⟨v, vm₁, ⟨U', l2, c2, s2⟩, hW₁, X', ⟨g', mk, t, L, e1, e2, hq, h1, hL, h2, h3⟩, st⟩ := vx_callSW X hx (hh := hh) (bytes := bytes) (maxL := maxL) (ret := ret) ho hl hstt hini hcode hy hK hg (hsize.trans hml.symm) (argsL := As) (rest := rest) (fun sig h => hn.trans (hlen sig h)) hstack hW (by rw [hb]; exact hdg)
    (fun vm₁ hW₁ => ⟨hf.1, hf.2, hp.2 (T.setVm vm₁) hT hW₁⟩)
  dsimp only [Pt.U, Pt.locs, Pt.cells, Pt.slots] at X' e1 e2 h1 h2 h3 st
  subst h1; subst h2; subst h3
  exact ⟨v, (T.setVm vm₁).calling g' mk As.toArray, t, U', L, hT, X', hL, e1, e2, hq, st⟩
/-- not caught here, past rows that name other classes: it goes on to the caller -/
theorem vx_outP {p : Program} {l : Launch} {e : Env} {R : Room} {s : State} {m : MethodId} {args : Array Value} {below : List Frame} {meth : Method} {c : Code} {H : Heap} {locs : List Loc} {cells slots : Nat} {free : Addr → Prop} {ls : Array Slot} {rest : List Value} {Qc : Array Value → State → Outcome → State → Prop} {XC : String → State → State → Prop}
    {pc : Nat} {own E : String} {ce : Cell} {q : Addr} {mc ms : Nat} (hown : s.vm.findClass own = some m.cls) (hlocks : meth.locks = false)
    (hpass : ∀ z ∈ c.exceptionTable.toList, covers z pc = false ∨ (z.catchType ≠ 0 ∧ ∃ nm : String, (Cond.classLink own z.catchType nm).before args s = true ∧ va_Nc E nm s)) (hcell : H[q]? = some ce) (hv : ce.vm = .none) (hcl : s.vm.findClass E = some ce.cls)
    (hx : ∀ t : State, t.heap = H → s.vm.Alike t.vm → XC E s t) (hf : ∀ z ∈ locs, free z.base) (hc : cells ≤ mc) (hs : slots ≤ ms) :
    vx_W p l e R s m args below meth c H locs cells slots (vx_MQ below Qc XC args s mc ms free) (F0 m pc ls rest) q := by
  intro T hT X
  have hpl : e.platform.magicAccessors = ({} : Platform).magicAccessors := by rw [X.admits.platform]
  obtain ⟨vm', hW', X', st⟩ := X.outThrough hlocks q (g := F0 m pc ls rest) rfl rfl rfl (cell := ce) (by rw [hT]; exact hcell) (by rw [hv]; rfl)
    (by obtain ⟨k9, h9, -⟩ := Vm.findClass_spec hcl; exact ⟨k9, h9⟩) (fun z hz => by
      rcases hpass z hz with h | ⟨hz0, nm, hl1, hn1⟩
      · exact Or.inl h
      · obtain ⟨c6, hc6, hcl6⟩ := Cond.classLink_spec hown hl1 e.platform hpl
        obtain ⟨a8, b8, h1, h2, h3⟩ := hn1
        cases Option.some.inj (h1.symm.trans hcl)
        cases Option.some.inj (h2.symm.trans hc6)
        exact Or.inr ⟨hz0, _, hcl6, h3⟩)
  obtain ⟨g₀, hfr⟩ := X'.frames_eq
  have hcell9 : ((T.setVm vm').setFrames (.throwing q :: below)).heap[q]? = some ce := by
    show T.heap[q]? = some ce
    rw [hT]; exact hcell
  have hend : Ended ((T.setVm vm').setFrames (.throwing q :: below)) below (.threw q) := State.frames_setFrames _ (State.cur_lt_of_frames hfr)
  refine ⟨(T.setVm vm').setFrames (.throwing q :: below), ?_, .threw q, X'.here.running, hend, Or.inr ⟨q, rfl, E, ce, locs, hx _ hT (X'.ends _).1.alike, hcell9, hv, hcl, (X'.ends _).1, (X'.ends _).2.mono hc hs, hf⟩⟩
  rw [X.pushThrowing_eq]
  exact st
/-- a thing of a world lies in the heap -/
theorem vx_lt {D : va_G} {cl : List vw_C} {ws : va_W} {H1 : Heap} (h : va_P D cl ws H1) {k : Nat} {q : Nat × va_E} (hk : ws[k]? = some q) : q.1 < H1.size := (h k q hk).lt
end VXS
/-! ===== END ===== -/
/-! ===== BEGIN methods with a table of their own: called by a name, returning or throwing ===== -/
section VXH
/-! vx_backW, vx_callVX, vx_callSX, vx_callVW, vx_runVW, vx_runVX, vx_runSX, vx_ofWH follow the same proofs as their sisters above (Free/Laws.lean, Shelf42/LK1.lean); vx_outP calls Shelf42/NT130.lean (outThrough). -/
section
variable {l : Launch} {R : Room} {p : Program} {e : Env} {below : List Frame} {s : State} {sargs : Array Value} {y : MethodName} {len W9 : Nat}
theorem vx_backW {ws : List Cond} {rm : Room} {Pc : Array Value → State → Prop} {Qc : Array Value → State → Outcome → State → Prop} {XC : String → State → State → Prop} {mc ms : Nat} {free : Addr → Prop} {bytes : ByteArray} {maxL : Nat} {ret : Option FieldType} {hh : List (Nat × Nat × Nat × Nat)}
    (hM : vx_Met l y ws rm Pc Qc XC mc ms free) (hblind : FrameBlind Pc) (hrc : rm.cells = mc) (hrs : rm.slots = ms)
    (hframes : rm.frames + 1 ≤ R.frames) (hlocals : W9 + (maxL + 11) + rm.locals ≤ R.locals)
    (hws : ∀ w ∈ ws, ∀ a' U, s.WarmedH U.vm → w.before a' U = true) (hcode : Cond.codeWith y bytes maxL ret hh ∈ ws) (hinit : ∀ a' U, s.WarmedH U.vm → (Cond.initialized y.cls).before a' U = true) :
    vx_Back l R p e below s sargs y len W9 (PreOf R mc ms Pc) (PostOf Qc mc ms free) (vx_Post XC mc ms free) := by
  intro m meth c A g ig mk a X hg hsize hdg hW hn hp
  have h1 : (headSpec ws rm).pre.before a A.U = true := atoms_intro fun w hw => hws w hw _ _ X.warmed
  have h2 : (Cond.codeWith y bytes maxL ret hh).before a A.U = true := hws _ hcode _ _ X.warmed
  have h3 : (Cond.initialized y.cls).before a A.U = true := hinit _ _ X.warmed
  have h4 : A.cells + (headSpec ws rm).room.cells ≤ R.cells := by rw [show (headSpec ws rm).room.cells = mc from hrc]; exact hp.1
  have h5 : A.slots + (headSpec ws rm).room.slots ≤ R.slots := by rw [show (headSpec ws rm).room.slots = ms from hrs]; exact hp.2.1
  have hPc : Pc a (A.U.calling g mk a) := hblind _ _ _ _ hp.2.2
  obtain ⟨U, Ls, c0, s0⟩ := A
  dsimp only [Pt.U, Pt.locs, Pt.cells, Pt.slots] at h1 h2 h3 h4 h5 X hn hPc ⊢
  obtain ⟨m9, methY, cY, hn9, hmY, hcY, -, hlY, -⟩ := Cond.codeWith_spec h2
  cases Option.some.inj (hn9.symm.trans hn)
  obtain ⟨kY, hkY, -⟩ := className_of_methodNamed hn
  have hinitY : kY.init = .initialized := Cond.initialized_spec (findClass_of_methodNamed hn) hkY h3
  have h : At U g.method c below := by rw [hg]; exact X.here
  have hlocals9 : W9 + (maxL + 11) + (headSpec ws rm).room.locals ≤ R.locals := hlocals
  have happ : (headSpec ws rm).appliesLoose y e.platform (U.calling g mk a) = true :=
    Spec.appliesLoose_calling (g := g) h hdg hn hkY hinitY
      (X.room_calling (g := g) (R' := (headSpec ws rm).room) hsize hmY hcY hframes (by rw [hlY]; omega) h4 h5) h1
  obtain ⟨mid, hmid⟩ := h.above
  have hfr : (U.setTop g).frames = (.java g :: mid) ++ below := by rw [State.frames_setTop' g h.top, hmid]; rfl
  obtain ⟨o, s₂, hsteps, -, hend, hq⟩ := Steps.callFree hM p X.admits X.cas X.clock (acts := []) hfr happ hPc trivial
  have hq' : vx_Q Qc XC mc ms free a (U.calling g mk a) o s₂ := hq
  rw [State.frames_setTop' g h.top] at hend
  obtain ⟨g₀, hg0⟩ := Option.isSome_iff_exists.mp h.top
  obtain ⟨r, hr⟩ := State.topJava?_eq_some.mp hg0
  have hr' : (({ U with heap := s₂.heap, slotsUsed := s₂.slotsUsed } : State).setVm s₂.vm).frames = .java g₀ :: r := hr
  rcases hq' with ⟨hqc, L, hfe, hL⟩ | ⟨q, rfl, E, ce, L, hx, hce, hcv, hcl, hW₂, hsm, hL⟩
  · obtain ⟨⟨v, rfl⟩, hW₂, e2, q2, q3, q4, q5, q6⟩ := id hfe
    have e3 : s₂ = ({ (U.calling g mk a).setFrames s₂.frames with heap := s₂.heap, slotsUsed := s₂.slotsUsed } : State).setVm s₂.vm := by
      have : s₂ = ({ s₂ with vm := (U.calling g mk a).vm } : State).setVm s₂.vm := rfl
      rw [e2] at this
      exact this
    obtain ⟨c₂, i₂, len₂, hc₂, hd₂, hf₂⟩ := hend
    have hW' : U.WarmedH s₂.vm := hW₂
    have hcc : c₂ = c := by
      have h1 : s₂.code? g.method = U.code? g.method := by
        rw [State.code?_eq, State.code?_eq, hW'.alike.method?]
      exact Option.some.inj (hc₂.symm.trans (h1.trans h.code))
    subst hcc
    have hlen : len₂ = len := by rw [hdg] at hd₂; cases hd₂; rfl
    subst hlen
    have hs₂ : s₂ = (({ U with heap := s₂.heap, slotsUsed := s₂.slotsUsed } : State).setVm s₂.vm).setTop { g with pc := g.pc + len₂, stack := v.toList ++ g.stack } := by
      refine e3.trans ?_
      rw [hf₂, State.calling_eq h.top, State.setFrames_setFrames, State.setTop_of_frames _ hr', hr]
      rfl
    have hsame : U.sameButNew ({ U with heap := s₂.heap, slotsUsed := s₂.slotsUsed } : State) L mc ms := by
      refine ⟨?_, q2, q3, q4, q5, q6⟩
      obtain ⟨t, ht, -⟩ := State.frames_cons hr
      show ({ U with heap := s₂.heap, slotsUsed := s₂.slotsUsed } : State) = { U.setFrames U.frames with heap := s₂.heap, slotsUsed := s₂.slotsUsed }
      rw [State.setFrames_self ht]
    subst hg
    refine Or.inl ⟨v, ⟨(({ U with heap := s₂.heap, slotsUsed := s₂.slotsUsed } : State).setVm s₂.vm), Ls ++ L, c0 + mc, s0 + ms⟩,
      ⟨X.admits, X.cas, X.clock, X.frames, X.room, X.hears, X.method, X.code, (X.here.setHeapUsed s₂.heap s₂.slotsUsed).setVm hW'.alike, X.tail, State.WarmedH.trans X.warmed hW', X.limits, X.bytes, X.same.trans (hsame.setVm s.vm)⟩,
      ⟨g, mk, s₂, L, rfl, rfl, hqc, rfl, hL, rfl, rfl⟩, ?_⟩
    show Steps p.tables e below _ ((({ U with heap := s₂.heap, slotsUsed := s₂.slotsUsed } : State).setVm s₂.vm).setTop { g with pc := g.pc + len₂, stack := v.toList ++ g.stack })
    rw [← hs₂]
    exact hsteps
  · obtain ⟨e2, q2, q3, q4, q5, q6⟩ := id hsm
    have e3 : s₂ = ({ (U.calling g mk a).setFrames s₂.frames with heap := s₂.heap, slotsUsed := s₂.slotsUsed } : State).setVm s₂.vm := by
      have : s₂ = ({ s₂ with vm := (U.calling g mk a).vm } : State).setVm s₂.vm := rfl
      rw [e2] at this
      exact this
    have hf₂ : s₂.frames = .throwing q :: .java g :: U.frames.tail := hend
    have hW' : U.WarmedH s₂.vm := hW₂
    have hs₂ : s₂ = ((({ U with heap := s₂.heap, slotsUsed := s₂.slotsUsed } : State).setVm s₂.vm).setTop g).pushFrame (.throwing q) := by
      refine e3.trans ?_
      rw [hf₂, State.calling_eq h.top, State.setFrames_setFrames, State.pushFrame, State.frames_setTop _ hr', State.setTop_of_frames _ hr', State.setFrames_setFrames, hr]
      rfl
    have hsame : U.sameButNew ({ U with heap := s₂.heap, slotsUsed := s₂.slotsUsed } : State) L mc ms := by
      refine ⟨?_, q2, q3, q4, q5, q6⟩
      obtain ⟨t, ht, -⟩ := State.frames_cons hr
      show ({ U with heap := s₂.heap, slotsUsed := s₂.slotsUsed } : State) = { U.setFrames U.frames with heap := s₂.heap, slotsUsed := s₂.slotsUsed }
      rw [State.setFrames_self ht]
    subst hg
    refine Or.inr ⟨q, ⟨(({ U with heap := s₂.heap, slotsUsed := s₂.slotsUsed } : State).setVm s₂.vm), Ls ++ L, c0 + mc, s0 + ms⟩,
      ⟨X.admits, X.cas, X.clock, X.frames, X.room, X.hears, X.method, X.code, (X.here.setHeapUsed s₂.heap s₂.slotsUsed).setVm hW'.alike, X.tail, State.WarmedH.trans X.warmed hW', X.limits, X.bytes, X.same.trans (hsame.setVm s.vm)⟩,
      ⟨g, mk, s₂, L, E, ce, rfl, rfl, hx, hce, hcv, hcl, rfl, hL, rfl, rfl⟩, ?_⟩
    show Steps p.tables e below _ (((({ U with heap := s₂.heap, slotsUsed := s₂.slotsUsed } : State).setVm s₂.vm).setTop g).pushFrame (.throwing q))
    rw [← hs₂]
    exact hsteps
end
variable {p : Program} {l : Launch} {e : Env} {R : Room} {s : State} {m : MethodId} {args : Array Value} {below : List Frame} {meth : Method} {c : Code} {T : State} {H : Heap} {locs : List Loc} {cells slots : Nat}
theorem vx_callVX (X : Stand p l e R s m args below meth c T locs cells slots) (hexec : p.tables.exec = Jvm.exec) {own C : String} {index : Nat} {y : MethodName} {bytes : ByteArray} {maxL : Nat} {ret : Option FieldType} {hh : List (Nat × Nat × Nat × Nat)}
    (hown : s.vm.findClass own = some m.cls) (hlink : (Cond.methodLink own index y).before args s = true) (hinst : (Cond.instanceMethod y).before args s = true) (hsel : (Cond.selects C y y).before args s = true)
    (hcode : (Cond.codeWith y bytes maxL ret hh).before args s = true) (hy : y.cls ≠ "java/lang/invoke/MethodHandle" ∧ y.cls ≠ "java/lang/invoke/VarHandle")
    {W9 : Nat} {Pre : Pt → Array Value → Prop} {Post : Pt → Array Value → Option Value → Pt → Prop} {PostX : Pt → Array Value → Addr → Pt → Prop} (hK : vx_Back l R p e below s args y 3 W9 Pre Post PostX)
    {b : Addr} {cellB : Cell} (hcell : T.heap[b]? = some cellB) (hobj : cellB.vm.isStatics = false) (hcls : s.vm.findClass C = some cellB.cls)
    {g : JFrame} (hg : g.method = m) (hsize : g.locals.size = c.maxLocals) {argsL rest : List Value} (hlen : ∀ sig, parseMethodDescriptor y.desc = some sig → argsL.length = sig.parameters.length)
    (hstack : g.stack = argsL.reverse ++ .ref b :: rest) (hW : 2 * g.monitorRoom + (rest.map fun v => v.category).sum ≤ W9) (hdg : decode c.code g.pc = .ok (.invokevirtual index, 3))
    (hpre : ∀ vm₁, s.WarmedH vm₁ → Pre ⟨T.setVm vm₁, locs, cells, slots⟩ (Value.ref b :: argsL).toArray) :
    (∃ (v : Option Value) (vm₁ : Vm) (B : Pt), s.WarmedH vm₁ ∧ Stand p l e R s m args below meth c B.U B.locs B.cells B.slots ∧ Post ⟨T.setVm vm₁, locs, cells, slots⟩ (Value.ref b :: argsL).toArray v B ∧
      ∀ target, Steps p.tables e below (B.U.setTop { g with pc := g.pc + 3, stack := v.toList ++ rest }) target → Steps p.tables e below (T.setTop g) target) ∨
    (∃ (q : Addr) (vm₁ : Vm) (B : Pt), s.WarmedH vm₁ ∧ Stand p l e R s m args below meth c B.U B.locs B.cells B.slots ∧ PostX ⟨T.setVm vm₁, locs, cells, slots⟩ (Value.ref b :: argsL).toArray q B ∧
      Steps p.tables e below (T.setTop g) ((B.U.setTop { g with stack := rest }).pushFrame (.throwing q))) := by
  obtain ⟨mk, methM, hnamed, hmethM, hstM, habM⟩ := Cond.instanceMethod_spec hinst
  obtain ⟨m8, methM', cM, hn8, hmethM', -, -, -, -, -, -, hsigM⟩ := Cond.codeWith_spec hcode
  cases Option.some.inj (hn8.symm.trans hnamed)
  cases hmethM.symm.trans hmethM'
  obtain ⟨c2, r2, m2, q1, q2, q3, q4, kP, hkP, hkPi⟩ := Cond.selects_spec hsel
  cases hcls.symm.trans q1
  cases (State.methodFound?_of_named hnamed hy).symm.trans q2
  cases hnamed.symm.trans q3
  have hselP : selectMethod e.platform s.vm cellB.cls mk = .method mk := by rw [Launch.admits_selectMethod X.admits]; exact q4
  obtain ⟨vm₁, X₁, hstep₁⟩ := X.invokevirtual hexec hown hlink hnamed hmethM hstM hkP hkPi hy (a := b) (cell := cellB) hcell
    (fun z h => by rw [h] at hobj; cases hobj) hselP hmethM habM hkP hkPi (g := g) hg (argsL := argsL) (rest := rest) (hlen _ hsigM) hstack hdg
  rcases hK m meth c ⟨T.setVm vm₁, locs, cells, slots⟩ { g with stack := rest } (.invokevirtual index) mk (Value.ref b :: argsL).toArray X₁ hg hsize hdg hW (X₁.named hnamed) (hpre vm₁ X₁.warmed) with ⟨v, B, X', hpost, hsteps⟩ | ⟨q, B, X', hpost, hsteps⟩
  · exact Or.inl ⟨v, vm₁, B, X₁.warmed, X', hpost, fun target h => hstep₁ _ fun acts => by rw [doInvoke_state]; exact hsteps.trans h⟩
  · exact Or.inr ⟨q, vm₁, B, X₁.warmed, X', hpost, hstep₁ _ fun acts => by rw [doInvoke_state]; exact hsteps⟩
theorem vx_callSX (X : Stand p l e R s m args below meth c T locs cells slots) (hexec : p.tables.exec = Jvm.exec) {own : String} {index : Nat} {y : MethodName} {bytes : ByteArray} {maxL : Nat} {ret : Option FieldType} {hh : List (Nat × Nat × Nat × Nat)}
    (hown : s.vm.findClass own = some m.cls) (hlink : (Cond.methodLink own index y).before args s = true) (hstat : (Cond.static y).before args s = true) (hinit : (Cond.initialized y.cls).before args s = true)
    (hcode : (Cond.codeWith y bytes maxL ret hh).before args s = true) (hy : y.cls ≠ "java/lang/invoke/MethodHandle" ∧ y.cls ≠ "java/lang/invoke/VarHandle")
    {W9 : Nat} {Pre : Pt → Array Value → Prop} {Post : Pt → Array Value → Option Value → Pt → Prop} {PostX : Pt → Array Value → Addr → Pt → Prop} (hK : vx_Back l R p e below s args y 3 W9 Pre Post PostX)
    {g : JFrame} (hg : g.method = m) (hsize : g.locals.size = c.maxLocals) {argsL rest : List Value} (hlen : ∀ sig, parseMethodDescriptor y.desc = some sig → argsL.length = sig.parameters.length)
    (hstack : g.stack = argsL.reverse ++ rest) (hW : 2 * g.monitorRoom + (rest.map fun v => v.category).sum ≤ W9) (hdg : decode c.code g.pc = .ok (.invokestatic index, 3))
    (hpre : ∀ vm₁, s.WarmedH vm₁ → Pre ⟨T.setVm vm₁, locs, cells, slots⟩ argsL.toArray) :
    (∃ (v : Option Value) (vm₁ : Vm) (B : Pt), s.WarmedH vm₁ ∧ Stand p l e R s m args below meth c B.U B.locs B.cells B.slots ∧ Post ⟨T.setVm vm₁, locs, cells, slots⟩ argsL.toArray v B ∧
      ∀ target, Steps p.tables e below (B.U.setTop { g with pc := g.pc + 3, stack := v.toList ++ rest }) target → Steps p.tables e below (T.setTop g) target) ∨
    (∃ (q : Addr) (vm₁ : Vm) (B : Pt), s.WarmedH vm₁ ∧ Stand p l e R s m args below meth c B.U B.locs B.cells B.slots ∧ PostX ⟨T.setVm vm₁, locs, cells, slots⟩ argsL.toArray q B ∧
      Steps p.tables e below (T.setTop g) ((B.U.setTop { g with stack := rest }).pushFrame (.throwing q))) := by
  obtain ⟨mk, methM, cM, hnamed, hmethM, -, -, -, -, -, -, hsigM⟩ := Cond.codeWith_spec hcode
  have hstatic : methM.isStatic = true := Cond.static_spec hnamed hmethM hstat
  obtain ⟨kP, hkP, -⟩ := className_of_methodNamed hnamed
  have hinitP : kP.init = .initialized := Cond.initialized_spec (findClass_of_methodNamed hnamed) hkP hinit
  obtain ⟨vm₁, X₁, hstep₁⟩ := X.invokestatic hexec hown hlink hnamed hmethM hstatic hkP hinitP hy (g := g) hg (argsL := argsL) (rest := rest) (hlen _ hsigM) hstack hdg
  rcases hK m meth c ⟨T.setVm vm₁, locs, cells, slots⟩ { g with stack := rest } (.invokestatic index) mk argsL.toArray X₁ hg hsize hdg hW (X₁.named hnamed) (hpre vm₁ X₁.warmed) with ⟨v, B, X', hpost, hsteps⟩ | ⟨q, B, X', hpost, hsteps⟩
  · exact Or.inl ⟨v, vm₁, B, X₁.warmed, X', hpost, fun target h => hstep₁ _ fun acts => by rw [doInvoke_state]; exact hsteps.trans h⟩
  · exact Or.inr ⟨q, vm₁, B, X₁.warmed, X', hpost, hstep₁ _ fun acts => by rw [doInvoke_state]; exact hsteps⟩
theorem vx_callVW (X : Stand p l e R s m args below meth c T locs cells slots) (hexec : p.tables.exec = Jvm.exec) {own C : String} {index : Nat} {y : MethodName} {bytes : ByteArray} {maxL : Nat} {ret : Option FieldType} {hh : List (Nat × Nat × Nat × Nat)}
    (hown : s.vm.findClass own = some m.cls) (hlink : (Cond.methodLink own index y).before args s = true) (hinst : (Cond.instanceMethod y).before args s = true) (hsel : (Cond.selects C y y).before args s = true)
    (hcode : (Cond.codeWith y bytes maxL ret hh).before args s = true) (hy : y.cls ≠ "java/lang/invoke/MethodHandle" ∧ y.cls ≠ "java/lang/invoke/VarHandle")
    {W9 : Nat} {Pre : Pt → Array Value → Prop} {Post : Pt → Array Value → Option Value → Pt → Prop} (hK : Back l R p e below s args y 3 W9 Pre Post)
    {b : Addr} {cellB : Cell} (hcell : T.heap[b]? = some cellB) (hobj : cellB.vm.isStatics = false) (hcls : s.vm.findClass C = some cellB.cls)
    {g : JFrame} (hg : g.method = m) (hsize : g.locals.size = c.maxLocals) {argsL rest : List Value} (hlen : ∀ sig, parseMethodDescriptor y.desc = some sig → argsL.length = sig.parameters.length)
    (hstack : g.stack = argsL.reverse ++ .ref b :: rest) (hW : 2 * g.monitorRoom + (rest.map fun v => v.category).sum ≤ W9) (hdg : decode c.code g.pc = .ok (.invokevirtual index, 3))
    (hpre : ∀ vm₁, s.WarmedH vm₁ → Pre ⟨T.setVm vm₁, locs, cells, slots⟩ (Value.ref b :: argsL).toArray) :
    ∃ (v : Option Value) (vm₁ : Vm) (B : Pt), s.WarmedH vm₁ ∧ Stand p l e R s m args below meth c B.U B.locs B.cells B.slots ∧ Post ⟨T.setVm vm₁, locs, cells, slots⟩ (Value.ref b :: argsL).toArray v B ∧
      ∀ target, Steps p.tables e below (B.U.setTop { g with pc := g.pc + 3, stack := v.toList ++ rest }) target → Steps p.tables e below (T.setTop g) target := by
  obtain ⟨mk, methM, hnamed, hmethM, hstM, habM⟩ := Cond.instanceMethod_spec hinst
  obtain ⟨m8, methM', cM, hn8, hmethM', -, -, -, -, -, -, hsigM⟩ := Cond.codeWith_spec hcode
  cases Option.some.inj (hn8.symm.trans hnamed)
  cases hmethM.symm.trans hmethM'
  obtain ⟨c2, r2, m2, q1, q2, q3, q4, kP, hkP, hkPi⟩ := Cond.selects_spec hsel
  cases hcls.symm.trans q1
  cases (State.methodFound?_of_named hnamed hy).symm.trans q2
  cases hnamed.symm.trans q3
  have hselP : selectMethod e.platform s.vm cellB.cls mk = .method mk := by rw [Launch.admits_selectMethod X.admits]; exact q4
  obtain ⟨vm₁, X₁, hstep₁⟩ := X.invokevirtual hexec hown hlink hnamed hmethM hstM hkP hkPi hy (a := b) (cell := cellB) hcell
    (fun z h => by rw [h] at hobj; cases hobj) hselP hmethM habM hkP hkPi (g := g) hg (argsL := argsL) (rest := rest) (hlen _ hsigM) hstack hdg
  obtain ⟨v, B, X', hpost, hsteps⟩ := hK m meth c ⟨T.setVm vm₁, locs, cells, slots⟩ { g with stack := rest } (.invokevirtual index) mk (Value.ref b :: argsL).toArray X₁ hg hsize hdg hW (X₁.named hnamed) (hpre vm₁ X₁.warmed)
  exact ⟨v, vm₁, B, X₁.warmed, X', hpost, fun target h => hstep₁ _ fun acts => by rw [doInvoke_state]; exact hsteps.trans h⟩
abbrev vx_CVW (R : Room) (s : State) (args : Array Value) (own C : String) (index : Nat) (y : MethodName) (bytes : ByteArray) (maxL : Nat) (ret : Option FieldType) (hh : List (Nat × Nat × Nat × Nat)) (ws : List Cond) (rm : Room) (mc ms n : Nat) : Prop :=
  (rm.cells = mc ∧ rm.slots = ms ∧ rm.frames + 1 ≤ R.frames ∧ 8 + (maxL + 11) + rm.locals ≤ R.locals ∧ (∀ w ∈ ws, ∀ (a' : Array Value) (U : State), s.WarmedH U.vm → w.before a' U = true) ∧ Cond.codeWith y bytes maxL ret hh ∈ ws) ∧
  (Cond.codeWith y bytes maxL ret hh).before args s = true ∧ (Cond.initialized y.cls).before args s = true ∧ (y.cls ≠ "java/lang/invoke/MethodHandle" ∧ y.cls ≠ "java/lang/invoke/VarHandle") ∧
  (∀ sig, parseMethodDescriptor y.desc = some sig → n = sig.parameters.length) ∧ (Cond.methodLink own index y).before args s = true ∧ (Cond.instanceMethod y).before args s = true ∧ (Cond.selects C y y).before args s = true
theorem vx_cwVW {own C : String} {index maxL mc ms : Nat} {y : MethodName} {bytes : ByteArray} {ret : Option FieldType} {hh : List (Nat × Nat × Nat × Nat)} {Ts ws ws' : List Cond} {rm : Room} (n : Nat) (ht : ∀ w ∈ Ts, w.before args s = true) (hT : GoodIn Ts (wsV own index C y ws)) (hw : ws = Cond.codeWith y bytes maxL ret hh :: ws') (hrc : rm.cells = mc) (hrs : rm.slots = ms)
    (hd : y.cls = C ∧ y.cls ≠ "java/lang/invoke/MethodHandle" ∧ y.cls ≠ "java/lang/invoke/VarHandle" ∧ (parseMethodDescriptor y.desc).map (fun d => d.parameters.length) = some n) (hR : rm.frames + 1 ≤ R.frames ∧ 8 + (maxL + 11) + rm.locals ≤ R.locals) :
    vx_CVW R s args own C index y bytes maxL ret hh ws rm mc ms n := by
  obtain ⟨hC, hd⟩ := hd
  subst hC
  have ok : ∀ w ∈ wsV own index y.cls y ws, w.before args s = true := fun w h => ht w (hT w h).1
  have hG : GoodIn Ts ws := fun w h => hT w (by unfold wsV; exact List.mem_append_right _ h)
  have hc : Cond.codeWith y bytes maxL ret hh ∈ ws := by rw [hw]; exact List.mem_cons_self
  refine ⟨⟨hrc, hrs, hR.1, hR.2, pay_in ht hG, hc⟩, ht _ (hG _ hc).1, ok _ (by simp [wsV]), ⟨hd.1, hd.2.1⟩, fun sig h => ?_, ok _ (by simp [wsV]), ok _ (by simp [wsV]), ok _ (by simp [wsV])⟩
  have h2 := hd.2.2
  rw [h] at h2
  exact (Option.some.inj h2).symm
theorem vx_runVW {y : MethodName} {bytes cc : ByteArray} {maxL nL mc ms n index : Nat} {ret : Option FieldType} {hh : List (Nat × Nat × Nat × Nat)} {ws : List Cond} {rm : Room} {Pc : Array Value → State → Prop} {Qc : Array Value → State → Outcome → State → Prop} {free : Addr → Prop} {Ts : List Cond} {own C : String} {b : Addr} {As rest : List Value} {g : JFrame}
    (S : CallFix p m c cc nL s args Ts own) (hM : Met l y ws rm Pc Qc mc ms free) (cw : vx_CVW R s args own C index y bytes maxL ret hh ws rm mc ms n) (hp : PreV s H C b Pc As)
    (hg : g.method = m) (hn : As.length = n) (hsize : g.locals.size = nL) (hstack : g.stack = As.reverse ++ .ref b :: rest) (hW : 2 * g.monitorRoom + (rest.map fun v => v.category).sum ≤ 8) (hdg : decode cc g.pc = .ok (.invokevirtual index, 3)) (hf : cells + mc ≤ R.cells ∧ slots + ms ≤ R.slots) :
    va_Run p l e R s m args below meth c H locs cells slots mc ms g rest (Qc (Value.ref b :: As).toArray) free := by
  obtain ⟨⟨hrc, hrs, hfr, hlo, hws, hcw⟩, hcode, hini, hy, hlen, hl, hin, hse⟩ := cw
  have hK : Back l R p e below s args y 3 8 (PreOf R mc ms Pc) (PostOf Qc mc ms free) := va_backW (hh := hh) (bytes := bytes) (maxL := maxL) (ret := ret) hM hp.1 hrc hrs hfr hlo hws hcw (fun a' U hW => word_at hW (Or.inl (by first | rfl | simp [Cond.onTables, Cond.keeps, Cond.steady])) hini)
  obtain ⟨hx, hb, hml, ho, -⟩ := S
  obtain ⟨-, ⟨cellB, hcB, hoB, hclB⟩, hPc⟩ := hp
  intro T hT X
  obtain ⟨v, vm₁, ⟨U', l2, c2, s2⟩, hW₁, X', ⟨g', mk, t, L, e1, e2, hq, h1, hL, h2, h3⟩, st⟩ := vx_callVW X hx (C := C) (hh := hh) (bytes := bytes) (maxL := maxL) (ret := ret) ho hl hin hse hcode hy hK (by rw [hT]; exact hcB) hoB hclB hg (hsize.trans hml.symm) (argsL := As) (rest := rest) (fun sig h => hn.trans (hlen sig h)) hstack hW (by rw [hb]; exact hdg)
    (fun vm₁ hW₁ => ⟨hf.1, hf.2, hPc (T.setVm vm₁) hT hW₁⟩)
  dsimp only [Pt.U, Pt.locs, Pt.cells, Pt.slots] at X' e1 e2 h1 h2 h3 st
  subst h1; subst h2; subst h3
  exact ⟨v, (T.setVm vm₁).calling g' mk (Value.ref b :: As).toArray, t, U', L, hT, X', hL, e1, e2, hq, st⟩
section
variable {y : MethodName} {bytes cc : ByteArray} {maxL nL mc ms n index : Nat} {ret : Option FieldType} {ws : List Cond} {rm : Room} {Pc : Array Value → State → Prop} {Qc : Array Value → State → Outcome → State → Prop} {XC : String → State → State → Prop} {free : Addr → Prop} {Ts : List Cond} {own C : String} {b : Addr} {As rest : List Value} {g : JFrame}
theorem vx_runVX {hh : List (Nat × Nat × Nat × Nat)} (S : CallFix p m c cc nL s args Ts own) (hM : vx_Met l y ws rm Pc Qc XC mc ms free) (cw : vx_CVW R s args own C index y bytes maxL ret hh ws rm mc ms n) (hp : PreV s H C b Pc As)
    (hg : g.method = m) (hn : As.length = n) (hsize : g.locals.size = nL) (hstack : g.stack = As.reverse ++ .ref b :: rest) (hW : 2 * g.monitorRoom + (rest.map fun v => v.category).sum ≤ 8) (hdg : decode cc g.pc = .ok (.invokevirtual index, 3)) (hf : cells + mc ≤ R.cells ∧ slots + ms ≤ R.slots) :
    vx_Run p l e R s m args below meth c H locs cells slots mc ms g rest (Qc (Value.ref b :: As).toArray) XC free := by
  obtain ⟨⟨hrc, hrs, hfr, hlo, hws, hcw⟩, hcode, hini, hy, hlen, hl, hin, hse⟩ := cw
  have hK : vx_Back l R p e below s args y 3 8 (PreOf R mc ms Pc) (PostOf Qc mc ms free) (vx_Post XC mc ms free) := vx_backW (hh := hh) (bytes := bytes) (maxL := maxL) (ret := ret) hM hp.1 hrc hrs hfr hlo hws hcw (fun a' U hW => word_at hW (Or.inl (by first | rfl | simp [Cond.onTables, Cond.keeps, Cond.steady])) hini)
  obtain ⟨hx, hb, hml, ho, -⟩ := S
  obtain ⟨-, ⟨cellB, hcB, hoB, hclB⟩, hPc⟩ := hp
  intro T hT X
  rcases vx_callVX X hx (C := C) (hh := hh) (bytes := bytes) (maxL := maxL) (ret := ret) ho hl hin hse hcode hy hK (by rw [hT]; exact hcB) hoB hclB hg (hsize.trans hml.symm) (argsL := As) (rest := rest) (fun sig h => hn.trans (hlen sig h)) hstack hW (by rw [hb]; exact hdg)
    (fun vm₁ hW₁ => ⟨hf.1, hf.2, hPc (T.setVm vm₁) hT hW₁⟩) with ⟨v, vm₁, ⟨U', l2, c2, s2⟩, hW₁, X', ⟨g', mk, t, L, e1, e2, hq, h1, hL, h2, h3⟩, st⟩ | ⟨q, vm₁, ⟨U', l2, c2, s2⟩, hW₁, X', ⟨g', mk, t, L, E, ce, e1, e2, hq, hce, hcv, hcl, h1, hL, h2, h3⟩, st⟩
  · dsimp only [Pt.U, Pt.locs, Pt.cells, Pt.slots] at X' e1 e2 h1 h2 h3 st
    subst h1; subst h2; subst h3
    exact Or.inl ⟨v, (T.setVm vm₁).calling g' mk (Value.ref b :: As).toArray, t, U', L, hT, X', hL, e1, e2, hq, st⟩
  · dsimp only [Pt.U, Pt.locs, Pt.cells, Pt.slots] at X' e1 e2 h1 h2 h3 st hcl
    subst h1; subst h2; subst h3
    exact Or.inr ⟨q, (T.setVm vm₁).calling g' mk (Value.ref b :: As).toArray, t, U', L, E, ce, hT, X', hL, e1, e2, hq, hce, hcv, vx_cls hW₁ hcl, st⟩
theorem vx_runSX {hh : List (Nat × Nat × Nat × Nat)} (S : CallFix p m c cc nL s args Ts own) (hM : vx_Met l y ws rm Pc Qc XC mc ms free) (cw : vx_CSW R s args own index y bytes maxL ret hh ws rm mc ms n) (hp : PreS s H Pc As)
    (hg : g.method = m) (hn : As.length = n) (hsize : g.locals.size = nL) (hstack : g.stack = As.reverse ++ rest) (hW : 2 * g.monitorRoom + (rest.map fun v => v.category).sum ≤ 8) (hdg : decode cc g.pc = .ok (.invokestatic index, 3)) (hf : cells + mc ≤ R.cells ∧ slots + ms ≤ R.slots) :
    vx_Run p l e R s m args below meth c H locs cells slots mc ms g rest (Qc As.toArray) XC free := by
  obtain ⟨⟨hrc, hrs, hfr, hlo, hws, hcw⟩, hcode, hini, hy, hlen, hl, hstt⟩ := cw
  have hK : vx_Back l R p e below s args y 3 8 (PreOf R mc ms Pc) (PostOf Qc mc ms free) (vx_Post XC mc ms free) := vx_backW (hh := hh) (bytes := bytes) (maxL := maxL) (ret := ret) hM hp.1 hrc hrs hfr hlo hws hcw (fun a' U hW => word_at hW (Or.inl (by first | rfl | simp [Cond.onTables, Cond.keeps, Cond.steady])) hini)
  obtain ⟨hx, hb, hml, ho, -⟩ := S
  intro T hT X
  rcases vx_callSX X hx (hh := hh) (bytes := bytes) (maxL := maxL) (ret := ret) ho hl hstt hini hcode hy hK hg (hsize.trans hml.symm) (argsL := As) (rest := rest) (fun sig h => hn.trans (hlen sig h)) hstack hW (by rw [hb]; exact hdg)
    (fun vm₁ hW₁ => ⟨hf.1, hf.2, hp.2 (T.setVm vm₁) hT hW₁⟩) with ⟨v, vm₁, ⟨U', l2, c2, s2⟩, hW₁, X', ⟨g', mk, t, L, e1, e2, hq, h1, hL, h2, h3⟩, st⟩ | ⟨q, vm₁, ⟨U', l2, c2, s2⟩, hW₁, X', ⟨g', mk, t, L, E, ce, e1, e2, hq, hce, hcv, hcl, h1, hL, h2, h3⟩, st⟩
  · dsimp only [Pt.U, Pt.locs, Pt.cells, Pt.slots] at X' e1 e2 h1 h2 h3 st
    subst h1; subst h2; subst h3
    exact Or.inl ⟨v, (T.setVm vm₁).calling g' mk As.toArray, t, U', L, hT, X', hL, e1, e2, hq, st⟩
  · dsimp only [Pt.U, Pt.locs, Pt.cells, Pt.slots] at X' e1 e2 h1 h2 h3 st hcl
    subst h1; subst h2; subst h3
    exact Or.inr ⟨q, (T.setVm vm₁).calling g' mk As.toArray, t, U', L, E, ce, hT, X', hL, e1, e2, hq, hce, hcv, vx_cls hW₁ hcl, st⟩
end
end VXH
theorem vx_ofWH {l : Launch} {y : MethodName} {ws ws' : List Cond} {rm : Room} {Pc : Array Value → State → Prop} {Qc : Array Value → State → Outcome → State → Prop} {XC : String → State → State → Prop} {mc ms : Nat} {free : Addr → Prop} {cc : ByteArray} {maxL : Nat} {ret : Option FieldType} {hh : List (Nat × Nat × Nat × Nat)}
    (hy : plainName y.cls = true) (hw : ws = Cond.codeWith y cc maxL ret hh :: ws')
    (body : ∀ p e s m args below meth c s₁, BodyLoose p l y (headSpec ws rm) cc maxL ret e s m args below meth c s₁ → c.maxLocals = maxL → Pc args s →
      W p l e (headSpec ws rm).room s m args below meth c s.heap [] 0 0 (vx_MQ below Qc XC args s mc ms free) (entryFrame m args maxL)) : vx_Met l y ws rm Pc Qc XC mc ms free := by
  refine MetFree.of_bodyS (code := cc) (maxLocals := maxL) (ret := ret) hy ?_ ?_
  · intro args s m h hn
    obtain ⟨m9, meth, c, hn9, h1, h2, h3, h4, -, h5, h6, -⟩ := Cond.codeWith_spec (atoms_spec (ws := ws) h _ (by rw [hw]; exact List.mem_cons_self))
    cases hn.symm.trans hn9
    exact ⟨meth, c, h1, h2, h3, h4, h5, h6⟩
  · intro p e s m args below meth c s₁ B hml hP _
    have hh0 : s₁.heap = s.heap := by rw [B.state]; rfl
    obtain ⟨t, a1, o, b1, b2, b3⟩ := body p e s m args below meth c s₁ B hml hP s₁ hh0 (Stand.of_body B)
    exact ⟨t, o, a1, b1, b2, b3⟩
/-! ===== END ===== -/
end
section
def R_Or : String := "EdgeWear$Order"
def T_Or : u_T := fun k => match k with
  | 0 => ("EdgeWear$Order", "sort", "I", true)
  | 1 => ("EdgeWear$Order", "day", "I", true)
  | _ => ("EdgeWear$Order", "done", "Z", false)
def t_Or : Nat → FieldType := fun k => match k with
  | 0 => .int
  | 1 => .int
  | _ => .boolean
theorem nm_Or : ∀ a, a < 3 → ∀ b, b < 3 → a ≠ b → (T_Or a).2.1 ≠ (T_Or b).2.1 := by decide +kernel
theorem tok_Or : ∀ k, k < 3 → parseFieldDescriptor (T_Or k).2.2.1 = some (t_Or k) := by decide +kernel
def R_Rd : String := "EdgeWear$Readings"
def T_Rd : u_T := fun k => match k with
  | 0 => ("EdgeWear$Readings", "latestFirst", "[I", true)
  | 1 => ("EdgeWear$Readings", "count", "I", false)
  | _ => ("EdgeWear$Readings", "lastMinute", "I", false)
def t_Rd : Nat → FieldType := fun k => match k with
  | 0 => (.array .int)
  | 1 => .int
  | _ => .int
theorem nm_Rd : ∀ a, a < 3 → ∀ b, b < 3 → a ≠ b → (T_Rd a).2.1 ≠ (T_Rd b).2.1 := by decide +kernel
theorem tok_Rd : ∀ k, k < 3 → parseFieldDescriptor (T_Rd k).2.2.1 = some (t_Rd k) := by decide +kernel
def R_Ru : String := "EdgeWear$Rules"
def T_Ru : u_T := fun k => match k with
  | 0 => ("EdgeWear$Rules", "high", "I", false)
  | 1 => ("EdgeWear$Rules", "run", "I", false)
  | 2 => ("EdgeWear$Rules", "middle", "I", false)
  | _ => ("EdgeWear$Rules", "jump", "I", false)
def t_Ru : Nat → FieldType := fun k => match k with
  | 0 => .int
  | 1 => .int
  | 2 => .int
  | _ => .int
theorem nm_Ru : ∀ a, a < 4 → ∀ b, b < 4 → a ≠ b → (T_Ru a).2.1 ≠ (T_Ru b).2.1 := by decide +kernel
theorem tok_Ru : ∀ k, k < 4 → parseFieldDescriptor (T_Ru k).2.2.1 = some (t_Ru k) := by decide +kernel
def R_So : String := "EdgeWear$Sort"
def T_So : u_T := fun k => match k with
  | 0 => ("EdgeWear$Sort", "number", "I", true)
  | 1 => ("EdgeWear$Sort", "lives", "[I", true)
  | 2 => ("EdgeWear$Sort", "lifeCount", "I", false)
  | 3 => ("EdgeWear$Sort", "wearLimit", "J", false)
  | 4 => ("EdgeWear$Sort", "changeCost", "I", false)
  | _ => ("EdgeWear$Sort", "failCost", "I", false)
def t_So : Nat → FieldType := fun k => match k with
  | 0 => .int
  | 1 => (.array .int)
  | 2 => .int
  | 3 => .long
  | 4 => .int
  | _ => .int
theorem nm_So : ∀ a, a < 6 → ∀ b, b < 6 → a ≠ b → (T_So a).2.1 ≠ (T_So b).2.1 := by decide +kernel
theorem tok_So : ∀ k, k < 6 → parseFieldDescriptor (T_So k).2.2.1 = some (t_So k) := by decide +kernel
def R_To : String := "EdgeWear$Tool"
def T_To : u_T := fun k => match k with
  | 0 => ("EdgeWear$Tool", "sort", "LEdgeWear$Sort;", true)
  | 1 => ("EdgeWear$Tool", "least", "I", true)
  | 2 => ("EdgeWear$Tool", "readings", "LEdgeWear$Readings;", true)
  | 3 => ("EdgeWear$Tool", "length", "I", false)
  | 4 => ("EdgeWear$Tool", "wear", "J", false)
  | 5 => ("EdgeWear$Tool", "uses", "J", false)
  | 6 => ("EdgeWear$Tool", "grindings", "J", false)
  | 7 => ("EdgeWear$Tool", "barred", "Z", false)
  | _ => ("EdgeWear$Tool", "out", "Z", false)
def t_To : Nat → FieldType := fun k => match k with
  | 0 => (.object "EdgeWear$Sort")
  | 1 => .int
  | 2 => (.object "EdgeWear$Readings")
  | 3 => .int
  | 4 => .long
  | 5 => .long
  | 6 => .long
  | 7 => .boolean
  | _ => .boolean
theorem nm_To : ∀ a, a < 9 → ∀ b, b < 9 → a ≠ b → (T_To a).2.1 ≠ (T_To b).2.1 := by decide +kernel
theorem tok_To : ∀ k, k < 9 → parseFieldDescriptor (T_To k).2.2.1 = some (t_To k) := by decide +kernel
def R_E : String := "EdgeWear"
def T_E : u_T := fun k => match k with
  | 0 => ("EdgeWear", "seed", "I", true)
  | 1 => ("EdgeWear", "rates", "[I", true)
  | 2 => ("EdgeWear", "sorts", "[LEdgeWear$Sort;", true)
  | 3 => ("EdgeWear", "tools", "[LEdgeWear$Tool;", true)
  | 4 => ("EdgeWear", "orders", "[LEdgeWear$Order;", true)
  | 5 => ("EdgeWear", "powerRules", "LEdgeWear$Rules;", true)
  | 6 => ("EdgeWear", "toolCount", "I", false)
  | _ => ("EdgeWear", "orderCount", "I", false)
def t_E : Nat → FieldType := fun k => match k with
  | 0 => .int
  | 1 => (.array .int)
  | 2 => (.array (.object "EdgeWear$Sort"))
  | 3 => (.array (.object "EdgeWear$Tool"))
  | 4 => (.array (.object "EdgeWear$Order"))
  | 5 => (.object "EdgeWear$Rules")
  | 6 => .int
  | _ => .int
theorem nm_E : ∀ a, a < 8 → ∀ b, b < 8 → a ≠ b → (T_E a).2.1 ≠ (T_E b).2.1 := by decide +kernel
theorem tok_E : ∀ k, k < 8 → parseFieldDescriptor (T_E k).2.2.1 = some (t_E k) := by decide +kernel
def R_M : String := "EdgeWearModel"
def T_M : u_T := fun k => match k with
  | 0 => ("EdgeWearModel", "thrown", "I", false)
  | 1 => ("EdgeWearModel", "seed", "J", false)
  | 2 => ("EdgeWearModel", "tools", "I", false)
  | 3 => ("EdgeWearModel", "sorts", "[I", true)
  | 4 => ("EdgeWearModel", "lengths", "[I", true)
  | 5 => ("EdgeWearModel", "leasts", "[I", true)
  | 6 => ("EdgeWearModel", "wears", "[J", true)
  | 7 => ("EdgeWearModel", "barred", "[Z", true)
  | 8 => ("EdgeWearModel", "outs", "[Z", true)
  | 9 => ("EdgeWearModel", "uses", "[I", true)
  | 10 => ("EdgeWearModel", "grinds", "[I", true)
  | 11 => ("EdgeWearModel", "rates", "[J", true)
  | 12 => ("EdgeWearModel", "limits", "[J", true)
  | 13 => ("EdgeWearModel", "lives", "[I", true)
  | 14 => ("EdgeWearModel", "many", "[I", true)
  | 15 => ("EdgeWearModel", "changes", "[J", true)
  | 16 => ("EdgeWearModel", "fails", "[J", true)
  | 17 => ("EdgeWearModel", "high", "I", false)
  | 18 => ("EdgeWearModel", "run", "I", false)
  | 19 => ("EdgeWearModel", "middle", "I", false)
  | 20 => ("EdgeWearModel", "jump", "I", false)
  | 21 => ("EdgeWearModel", "readings", "[I", true)
  | 22 => ("EdgeWearModel", "has", "[I", true)
  | 23 => ("EdgeWearModel", "minutes", "[I", true)
  | 24 => ("EdgeWearModel", "orderTools", "[I", true)
  | 25 => ("EdgeWearModel", "orderDays", "[I", true)
  | 26 => ("EdgeWearModel", "orders", "I", false)
  | _ => ("EdgeWearModel", "toldOrders", "I", false)
def t_M : Nat → FieldType := fun k => match k with
  | 0 => .int
  | 1 => .long
  | 2 => .int
  | 3 => (.array .int)
  | 4 => (.array .int)
  | 5 => (.array .int)
  | 6 => (.array .long)
  | 7 => (.array .boolean)
  | 8 => (.array .boolean)
  | 9 => (.array .int)
  | 10 => (.array .int)
  | 11 => (.array .long)
  | 12 => (.array .long)
  | 13 => (.array .int)
  | 14 => (.array .int)
  | 15 => (.array .long)
  | 16 => (.array .long)
  | 17 => .int
  | 18 => .int
  | 19 => .int
  | 20 => .int
  | 21 => (.array .int)
  | 22 => (.array .int)
  | 23 => (.array .int)
  | 24 => (.array .int)
  | 25 => (.array .int)
  | 26 => .int
  | _ => .int
theorem nm_M : ∀ a, a < 28 → ∀ b, b < 28 → a ≠ b → (T_M a).2.1 ≠ (T_M b).2.1 := by decide +kernel
theorem tok_M : ∀ k, k < 28 → parseFieldDescriptor (T_M k).2.2.1 = some (t_M k) := by decide +kernel
def R_L : String := "EdgeWearLaw"
abbrev mCl : List vw_C := [(R_Or, T_Or, 3), (R_Rd, T_Rd, 3), (R_Ru, T_Ru, 4), (R_So, T_So, 6), (R_To, T_To, 9), (R_E, T_E, 8), (R_M, T_M, 28)]
abbrev b_E_init : ByteArray := prog_1_method_1_code
def y_E_init : MethodName := ⟨"EdgeWear", "<init>", "(I)V"⟩
abbrev b_E_tool : ByteArray := prog_1_method_2_code
def y_E_tool : MethodName := ⟨"EdgeWear", "tool", "(III)I"⟩
abbrev b_E_rate : ByteArray := prog_1_method_3_code
def y_E_rate : MethodName := ⟨"EdgeWear", "rate", "(III)V"⟩
abbrev b_E_limit : ByteArray := prog_1_method_4_code
def y_E_limit : MethodName := ⟨"EdgeWear", "limit", "(IJ)V"⟩
abbrev b_E_use : ByteArray := prog_1_method_5_code
def y_E_use : MethodName := ⟨"EdgeWear", "use", "(IIII)Z"⟩
abbrev b_E_grind : ByteArray := prog_1_method_6_code
def y_E_grind : MethodName := ⟨"EdgeWear", "grind", "(II)Z"⟩
abbrev b_E_about : ByteArray := prog_1_method_7_code
def y_E_about : MethodName := ⟨"EdgeWear", "about", "(II)J"⟩
abbrev b_E_spare : ByteArray := prog_1_method_8_code
def y_E_spare : MethodName := ⟨"EdgeWear", "spare", "(I)I"⟩
abbrev b_E_take : ByteArray := prog_1_method_9_code
def y_E_take : MethodName := ⟨"EdgeWear", "take", "(I)I"⟩
abbrev b_E_bring : ByteArray := prog_1_method_10_code
def y_E_bring : MethodName := ⟨"EdgeWear", "bring", "(I)Z"⟩
abbrev b_E_life : ByteArray := prog_1_method_11_code
def y_E_life : MethodName := ⟨"EdgeWear", "life", "(II)I"⟩
abbrev b_E_cost : ByteArray := prog_1_method_12_code
def y_E_cost : MethodName := ⟨"EdgeWear", "cost", "(III)V"⟩
abbrev b_E_change : ByteArray := prog_1_method_13_code
def y_E_change : MethodName := ⟨"EdgeWear", "change", "(I)I"⟩
abbrev b_E_changed : ByteArray := prog_1_method_14_code
def y_E_changed : MethodName := ⟨"EdgeWear", "changed", "(III)J"⟩
abbrev b_E_breaks : ByteArray := prog_1_method_15_code
def y_E_breaks : MethodName := ⟨"EdgeWear", "breaks", "(II)I"⟩
abbrev b_E_rules : ByteArray := prog_1_method_16_code
def y_E_rules : MethodName := ⟨"EdgeWear", "rules", "(IIII)V"⟩
abbrev b_E_power : ByteArray := prog_1_method_17_code
def y_E_power : MethodName := ⟨"EdgeWear", "power", "(III)I"⟩
abbrev b_E_order : ByteArray := prog_1_method_18_code
def y_E_order : MethodName := ⟨"EdgeWear", "order", "(II)Z"⟩
abbrev b_E_joined : ByteArray := prog_1_method_19_code
def y_E_joined : MethodName := ⟨"EdgeWear", "joined", "(II)I"⟩
abbrev b_E_open : ByteArray := prog_1_method_20_code
def y_E_open : MethodName := ⟨"EdgeWear", "open", "()I"⟩
abbrev b_E_chip : ByteArray := prog_1_method_21_code
def y_E_chip : MethodName := ⟨"EdgeWear", "chip", "(IIII)I"⟩
abbrev b_E_toolAt : ByteArray := prog_1_method_22_code
def y_E_toolAt : MethodName := ⟨"EdgeWear", "toolAt", "(I)LEdgeWear$Tool;"⟩
abbrev b_E_sortAt : ByteArray := prog_1_method_23_code
def y_E_sortAt : MethodName := ⟨"EdgeWear", "sortAt", "(I)LEdgeWear$Sort;"⟩
abbrev b_E_rateIndex : ByteArray := prog_1_method_24_code
def y_E_rateIndex : MethodName := ⟨"EdgeWear", "rateIndex", "(II)I"⟩
abbrev b_E_nextSpare : ByteArray := prog_1_method_25_code
def y_E_nextSpare : MethodName := ⟨"EdgeWear", "nextSpare", "(I)I"⟩
abbrev b_E_mixed : ByteArray := prog_1_method_26_code
def y_E_mixed : MethodName := ⟨"EdgeWear", "mixed", "(II)J"⟩
abbrev b_E_isAnyDue : ByteArray := prog_1_method_27_code
def y_E_isAnyDue : MethodName := ⟨"EdgeWear", "isAnyDue", "(II)Z"⟩
abbrev b_E_closeDue : ByteArray := prog_1_method_28_code
def y_E_closeDue : MethodName := ⟨"EdgeWear", "closeDue", "(II)I"⟩
abbrev b_E_wholeThickness : ByteArray := prog_1_method_29_code
def y_E_wholeThickness : MethodName := ⟨"EdgeWear", "wholeThickness", "(JI)I"⟩
abbrev b_M_init : ByteArray := prog_8_method_1_code
def y_M_init : MethodName := ⟨"EdgeWearModel", "<init>", "(I)V"⟩
abbrev b_M_thrown : ByteArray := prog_8_method_2_code
def y_M_thrown : MethodName := ⟨"EdgeWearModel", "thrown", "()I"⟩
abbrev b_M_isIn : ByteArray := prog_8_method_3_code
def y_M_isIn : MethodName := ⟨"EdgeWearModel", "isIn", "(JJJ)Z"⟩
abbrev b_M_isFour : ByteArray := prog_8_method_4_code
def y_M_isFour : MethodName := ⟨"EdgeWearModel", "isFour", "(I)Z"⟩
abbrev b_M_noTool : ByteArray := prog_8_method_5_code
def y_M_noTool : MethodName := ⟨"EdgeWearModel", "noTool", "(I)Z"⟩
abbrev b_M_tool : ByteArray := prog_8_method_6_code
def y_M_tool : MethodName := ⟨"EdgeWearModel", "tool", "(III)I"⟩
abbrev b_M_rate : ByteArray := prog_8_method_7_code
def y_M_rate : MethodName := ⟨"EdgeWearModel", "rate", "(III)V"⟩
abbrev b_M_limit : ByteArray := prog_8_method_8_code
def y_M_limit : MethodName := ⟨"EdgeWearModel", "limit", "(IJ)V"⟩
abbrev b_M_isBlunt : ByteArray := prog_8_method_9_code
def y_M_isBlunt : MethodName := ⟨"EdgeWearModel", "isBlunt", "(I)Z"⟩
abbrev b_M_use : ByteArray := prog_8_method_10_code
def y_M_use : MethodName := ⟨"EdgeWearModel", "use", "(IIII)Z"⟩
abbrev b_M_grind : ByteArray := prog_8_method_11_code
def y_M_grind : MethodName := ⟨"EdgeWearModel", "grind", "(II)Z"⟩
abbrev b_M_about : ByteArray := prog_8_method_12_code
def y_M_about : MethodName := ⟨"EdgeWearModel", "about", "(II)J"⟩
abbrev b_M_isSpare : ByteArray := prog_8_method_13_code
def y_M_isSpare : MethodName := ⟨"EdgeWearModel", "isSpare", "(II)Z"⟩
abbrev b_M_spare : ByteArray := prog_8_method_14_code
def y_M_spare : MethodName := ⟨"EdgeWearModel", "spare", "(I)I"⟩
abbrev b_M_take : ByteArray := prog_8_method_15_code
def y_M_take : MethodName := ⟨"EdgeWearModel", "take", "(I)I"⟩
abbrev b_M_bring : ByteArray := prog_8_method_16_code
def y_M_bring : MethodName := ⟨"EdgeWearModel", "bring", "(I)Z"⟩
abbrev b_M_life : ByteArray := prog_8_method_17_code
def y_M_life : MethodName := ⟨"EdgeWearModel", "life", "(II)I"⟩
abbrev b_M_cost : ByteArray := prog_8_method_18_code
def y_M_cost : MethodName := ⟨"EdgeWearModel", "cost", "(III)V"⟩
abbrev b_M_costs : ByteArray := prog_8_method_19_code
def y_M_costs : MethodName := ⟨"EdgeWearModel", "costs", "(II)J"⟩
abbrev b_M_brings : ByteArray := prog_8_method_20_code
def y_M_brings : MethodName := ⟨"EdgeWearModel", "brings", "(II)J"⟩
abbrev b_M_greatest : ByteArray := prog_8_method_21_code
def y_M_greatest : MethodName := ⟨"EdgeWearModel", "greatest", "(I)I"⟩
abbrev b_M_change : ByteArray := prog_8_method_22_code
def y_M_change : MethodName := ⟨"EdgeWearModel", "change", "(I)I"⟩
abbrev b_M_changed : ByteArray := prog_8_method_23_code
def y_M_changed : MethodName := ⟨"EdgeWearModel", "changed", "(III)J"⟩
abbrev b_M_breaks : ByteArray := prog_8_method_24_code
def y_M_breaks : MethodName := ⟨"EdgeWearModel", "breaks", "(II)I"⟩
abbrev b_M_rules : ByteArray := prog_8_method_25_code
def y_M_rules : MethodName := ⟨"EdgeWearModel", "rules", "(IIII)V"⟩
abbrev b_M_reading : ByteArray := prog_8_method_26_code
def y_M_reading : MethodName := ⟨"EdgeWearModel", "reading", "(II)I"⟩
abbrev b_M_apart : ByteArray := prog_8_method_27_code
def y_M_apart : MethodName := ⟨"EdgeWearModel", "apart", "(II)I"⟩
abbrev b_M_fired : ByteArray := prog_8_method_28_code
def y_M_fired : MethodName := ⟨"EdgeWearModel", "fired", "(I)I"⟩
abbrev b_M_power : ByteArray := prog_8_method_29_code
def y_M_power : MethodName := ⟨"EdgeWearModel", "power", "(III)I"⟩
abbrev b_M_order : ByteArray := prog_8_method_30_code
def y_M_order : MethodName := ⟨"EdgeWearModel", "order", "(II)Z"⟩
abbrev b_M_isDue : ByteArray := prog_8_method_31_code
def y_M_isDue : MethodName := ⟨"EdgeWearModel", "isDue", "(III)Z"⟩
abbrev b_M_joined : ByteArray := prog_8_method_32_code
def y_M_joined : MethodName := ⟨"EdgeWearModel", "joined", "(II)I"⟩
abbrev b_M_open : ByteArray := prog_8_method_33_code
def y_M_open : MethodName := ⟨"EdgeWearModel", "open", "()I"⟩
abbrev b_M_chip : ByteArray := prog_8_method_34_code
def y_M_chip : MethodName := ⟨"EdgeWearModel", "chip", "(IIII)I"⟩
abbrev b_Or_init : ByteArray := prog_2_method_1_code
def y_Or_init : MethodName := ⟨"EdgeWear$Order", "<init>", "(II)V"⟩
abbrev b_Or_isDue : ByteArray := prog_2_method_2_code
def y_Or_isDue : MethodName := ⟨"EdgeWear$Order", "isDue", "(II)Z"⟩
abbrev b_Rd_init : ByteArray := prog_3_method_1_code
def y_Rd_init : MethodName := ⟨"EdgeWear$Readings", "<init>", "()V"⟩
abbrev b_Rd_add : ByteArray := prog_3_method_2_code
def y_Rd_add : MethodName := ⟨"EdgeWear$Readings", "add", "(II)V"⟩
abbrev b_Rd_isAbove : ByteArray := prog_3_method_3_code
def y_Rd_isAbove : MethodName := ⟨"EdgeWear$Readings", "isAbove", "(I)Z"⟩
abbrev b_Rd_isRising : ByteArray := prog_3_method_4_code
def y_Rd_isRising : MethodName := ⟨"EdgeWear$Readings", "isRising", "(I)Z"⟩
abbrev b_Rd_staysAbove : ByteArray := prog_3_method_5_code
def y_Rd_staysAbove : MethodName := ⟨"EdgeWear$Readings", "staysAbove", "(II)Z"⟩
abbrev b_Rd_isJumping : ByteArray := prog_3_method_6_code
def y_Rd_isJumping : MethodName := ⟨"EdgeWear$Readings", "isJumping", "(I)Z"⟩
abbrev b_Rd_step : ByteArray := prog_3_method_7_code
def y_Rd_step : MethodName := ⟨"EdgeWear$Readings", "step", "(I)I"⟩
abbrev b_Ru_init : ByteArray := prog_4_method_1_code
def y_Ru_init : MethodName := ⟨"EdgeWear$Rules", "<init>", "()V"⟩
abbrev b_Ru_firstThatTells : ByteArray := prog_4_method_2_code
def y_Ru_firstThatTells : MethodName := ⟨"EdgeWear$Rules", "firstThatTells", "(LEdgeWear$Readings;)I"⟩
abbrev b_So_init : ByteArray := prog_5_method_1_code
def y_So_init : MethodName := ⟨"EdgeWear$Sort", "<init>", "(I)V"⟩
abbrev b_So_greatestLife : ByteArray := prog_5_method_2_code
def y_So_greatestLife : MethodName := ⟨"EdgeWear$Sort", "greatestLife", "()I"⟩
abbrev b_So_costAt : ByteArray := prog_5_method_3_code
def y_So_costAt : MethodName := ⟨"EdgeWear$Sort", "costAt", "(I)J"⟩
abbrev b_So_usesAt : ByteArray := prog_5_method_4_code
def y_So_usesAt : MethodName := ⟨"EdgeWear$Sort", "usesAt", "(I)J"⟩
abbrev b_So_bestUses : ByteArray := prog_5_method_5_code
def y_So_bestUses : MethodName := ⟨"EdgeWear$Sort", "bestUses", "()I"⟩
abbrev b_So_isBetter : ByteArray := prog_5_method_6_code
def y_So_isBetter : MethodName := ⟨"EdgeWear$Sort", "isBetter", "(II)Z"⟩
abbrev b_To_init : ByteArray := prog_6_method_1_code
def y_To_init : MethodName := ⟨"EdgeWear$Tool", "<init>", "(LEdgeWear$Sort;II)V"⟩
abbrev b_To_wearBy : ByteArray := prog_6_method_2_code
def y_To_wearBy : MethodName := ⟨"EdgeWear$Tool", "wearBy", "(J)V"⟩
abbrev b_To_grindOrBar : ByteArray := prog_6_method_3_code
def y_To_grindOrBar : MethodName := ⟨"EdgeWear$Tool", "grindOrBar", "(I)Z"⟩
abbrev b_To_isBlunt : ByteArray := prog_6_method_4_code
def y_To_isBlunt : MethodName := ⟨"EdgeWear$Tool", "isBlunt", "()Z"⟩
abbrev b_To_isSpareOf : ByteArray := prog_6_method_5_code
def y_To_isSpareOf : MethodName := ⟨"EdgeWear$Tool", "isSpareOf", "(I)Z"⟩
abbrev b_To_marks : ByteArray := prog_6_method_6_code
def y_To_marks : MethodName := ⟨"EdgeWear$Tool", "marks", "()I"⟩
abbrev b_L_cell : ByteArray := method_2_code
def y_L_cell : MethodName := ⟨"EdgeWearLaw", "cell", "([II)I"⟩
abbrev b_L_tool : ByteArray := method_3_code
def y_L_tool : MethodName := ⟨"EdgeWearLaw", "tool", "(LEdgeWear;III[J)I"⟩
abbrev b_L_rate : ByteArray := method_4_code
def y_L_rate : MethodName := ⟨"EdgeWearLaw", "rate", "(LEdgeWear;III)I"⟩
abbrev b_L_limit : ByteArray := method_5_code
def y_L_limit : MethodName := ⟨"EdgeWearLaw", "limit", "(LEdgeWear;IJ)I"⟩
abbrev b_L_use : ByteArray := method_6_code
def y_L_use : MethodName := ⟨"EdgeWearLaw", "use", "(LEdgeWear;IIII[J)I"⟩
abbrev b_L_grind : ByteArray := method_7_code
def y_L_grind : MethodName := ⟨"EdgeWearLaw", "grind", "(LEdgeWear;II[J)I"⟩
abbrev b_L_about : ByteArray := method_8_code
def y_L_about : MethodName := ⟨"EdgeWearLaw", "about", "(LEdgeWear;II[J)I"⟩
abbrev b_L_spare : ByteArray := method_9_code
def y_L_spare : MethodName := ⟨"EdgeWearLaw", "spare", "(LEdgeWear;I[J)I"⟩
abbrev b_L_take : ByteArray := method_10_code
def y_L_take : MethodName := ⟨"EdgeWearLaw", "take", "(LEdgeWear;I[J)I"⟩
abbrev b_L_bring : ByteArray := method_11_code
def y_L_bring : MethodName := ⟨"EdgeWearLaw", "bring", "(LEdgeWear;I[J)I"⟩
abbrev b_L_life : ByteArray := method_12_code
def y_L_life : MethodName := ⟨"EdgeWearLaw", "life", "(LEdgeWear;II[J)I"⟩
abbrev b_L_cost : ByteArray := method_13_code
def y_L_cost : MethodName := ⟨"EdgeWearLaw", "cost", "(LEdgeWear;III)I"⟩
abbrev b_L_change : ByteArray := method_14_code
def y_L_change : MethodName := ⟨"EdgeWearLaw", "change", "(LEdgeWear;I[J)I"⟩
abbrev b_L_changed : ByteArray := method_15_code
def y_L_changed : MethodName := ⟨"EdgeWearLaw", "changed", "(LEdgeWear;III[J)I"⟩
abbrev b_L_breaks : ByteArray := method_16_code
def y_L_breaks : MethodName := ⟨"EdgeWearLaw", "breaks", "(LEdgeWear;II[J)I"⟩
abbrev b_L_rules : ByteArray := method_17_code
def y_L_rules : MethodName := ⟨"EdgeWearLaw", "rules", "(LEdgeWear;IIII)I"⟩
abbrev b_L_power : ByteArray := method_18_code
def y_L_power : MethodName := ⟨"EdgeWearLaw", "power", "(LEdgeWear;III[J)I"⟩
abbrev b_L_order : ByteArray := method_19_code
def y_L_order : MethodName := ⟨"EdgeWearLaw", "order", "(LEdgeWear;II[J)I"⟩
abbrev b_L_joined : ByteArray := method_20_code
def y_L_joined : MethodName := ⟨"EdgeWearLaw", "joined", "(LEdgeWear;II[J)I"⟩
abbrev b_L_chip : ByteArray := method_21_code
def y_L_chip : MethodName := ⟨"EdgeWearLaw", "chip", "(LEdgeWear;IIII[J)I"⟩
abbrev b_L_law : ByteArray := code
def y_L_law : MethodName := ⟨"EdgeWearLaw", "law", "([I)Z"⟩
/-- the words of the tables that keep -/
def mBig : List Cond := lw_tbl.filter goodWord
theorem mBig_in {w : Cond} (i : Nat) (h : lw_tbl[i]? = some w) (hg : goodWord w = true) : w ∈ mBig := List.mem_filter.mpr ⟨List.mem_of_getElem? h, hg⟩
theorem mBig_good : GoodIn mBig mBig := fun w h => ⟨h, good_of_word (List.mem_filter.mp h).2⟩
theorem in_Or : ∀ w ∈ u_ws R_Or T_Or 3, w ∈ mBig := by decide +kernel
theorem in_Rd : ∀ w ∈ u_ws R_Rd T_Rd 3, w ∈ mBig := by decide +kernel
theorem in_Ru : ∀ w ∈ u_ws R_Ru T_Ru 4, w ∈ mBig := by decide +kernel
theorem in_So : ∀ w ∈ u_ws R_So T_So 6, w ∈ mBig := by decide +kernel
theorem in_To : ∀ w ∈ u_ws R_To T_To 9, w ∈ mBig := by decide +kernel
theorem in_E : ∀ w ∈ u_ws R_E T_E 8, w ∈ mBig := by decide +kernel
theorem in_M : ∀ w ∈ u_ws R_M T_M 28, w ∈ mBig := by decide +kernel
end
section
theorem d_E_init_0 : decode b_E_init 0 = .ok (.aload_n 0, 1) := by decide +kernel
theorem d_E_init_1 : decode b_E_init 1 = .ok (.invokespecial 1, 3) := by decide +kernel
theorem d_E_init_4 : decode b_E_init 4 = .ok (.aload_n 0, 1) := by decide +kernel
theorem d_E_init_5 : decode b_E_init 5 = .ok (.iload_n 1, 1) := by decide +kernel
theorem d_E_init_6 : decode b_E_init 6 = .ok (.putfield 7, 3) := by decide +kernel
theorem d_E_init_9 : decode b_E_init 9 = .ok (.aload_n 0, 1) := by decide +kernel
theorem d_E_init_10 : decode b_E_init 10 = .ok (.bipush 16, 2) := by decide +kernel
theorem d_E_init_12 : decode b_E_init 12 = .ok (.newarray .int, 2) := by decide +kernel
theorem d_E_init_14 : decode b_E_init 14 = .ok (.putfield 13, 3) := by decide +kernel
theorem d_E_init_17 : decode b_E_init 17 = .ok (.iconst 0, 1) := by decide +kernel
theorem d_E_init_18 : decode b_E_init 18 = .ok (.istore_n 2, 1) := by decide +kernel
theorem d_E_init_19 : decode b_E_init 19 = .ok (.iload_n 2, 1) := by decide +kernel
theorem d_E_init_20 : decode b_E_init 20 = .ok (.aload_n 0, 1) := by decide +kernel
theorem d_E_init_21 : decode b_E_init 21 = .ok (.getfield 13, 3) := by decide +kernel
theorem d_E_init_24 : decode b_E_init 24 = .ok (.arraylength, 1) := by decide +kernel
theorem d_E_init_25 : decode b_E_init 25 = .ok (.if_icmp .ge 16, 3) := by decide +kernel
theorem d_E_init_28 : decode b_E_init 28 = .ok (.aload_n 0, 1) := by decide +kernel
theorem d_E_init_29 : decode b_E_init 29 = .ok (.getfield 13, 3) := by decide +kernel
theorem d_E_init_32 : decode b_E_init 32 = .ok (.iload_n 2, 1) := by decide +kernel
theorem d_E_init_33 : decode b_E_init 33 = .ok (.iconst 1, 1) := by decide +kernel
theorem d_E_init_34 : decode b_E_init 34 = .ok (.iastore, 1) := by decide +kernel
theorem d_E_init_35 : decode b_E_init 35 = .ok (.iinc 2 1, 3) := by decide +kernel
theorem d_E_init_38 : decode b_E_init 38 = .ok (.goto (-19), 3) := by decide +kernel
theorem d_E_init_41 : decode b_E_init 41 = .ok (.aload_n 0, 1) := by decide +kernel
theorem d_E_init_42 : decode b_E_init 42 = .ok (.iconst 4, 1) := by decide +kernel
theorem d_E_init_43 : decode b_E_init 43 = .ok (.anewarray 17, 3) := by decide +kernel
theorem d_E_init_46 : decode b_E_init 46 = .ok (.putfield 19, 3) := by decide +kernel
theorem d_E_init_49 : decode b_E_init 49 = .ok (.iconst 0, 1) := by decide +kernel
theorem d_E_init_50 : decode b_E_init 50 = .ok (.istore_n 2, 1) := by decide +kernel
theorem d_E_init_51 : decode b_E_init 51 = .ok (.iload_n 2, 1) := by decide +kernel
theorem d_E_init_52 : decode b_E_init 52 = .ok (.aload_n 0, 1) := by decide +kernel
theorem d_E_init_53 : decode b_E_init 53 = .ok (.getfield 19, 3) := by decide +kernel
theorem d_E_init_56 : decode b_E_init 56 = .ok (.arraylength, 1) := by decide +kernel
theorem d_E_init_57 : decode b_E_init 57 = .ok (.if_icmp .ge 23, 3) := by decide +kernel
theorem d_E_init_60 : decode b_E_init 60 = .ok (.aload_n 0, 1) := by decide +kernel
theorem d_E_init_61 : decode b_E_init 61 = .ok (.getfield 19, 3) := by decide +kernel
theorem d_E_init_64 : decode b_E_init 64 = .ok (.iload_n 2, 1) := by decide +kernel
theorem d_E_init_65 : decode b_E_init 65 = .ok (.new 17, 3) := by decide +kernel
theorem d_E_init_68 : decode b_E_init 68 = .ok (.dup, 1) := by decide +kernel
theorem d_E_init_69 : decode b_E_init 69 = .ok (.iload_n 2, 1) := by decide +kernel
theorem d_E_init_70 : decode b_E_init 70 = .ok (.invokespecial 23, 3) := by decide +kernel
theorem d_E_init_73 : decode b_E_init 73 = .ok (.aastore, 1) := by decide +kernel
theorem d_E_init_74 : decode b_E_init 74 = .ok (.iinc 2 1, 3) := by decide +kernel
theorem d_E_init_77 : decode b_E_init 77 = .ok (.goto (-26), 3) := by decide +kernel
theorem d_E_init_80 : decode b_E_init 80 = .ok (.aload_n 0, 1) := by decide +kernel
theorem d_E_init_81 : decode b_E_init 81 = .ok (.bipush 12, 2) := by decide +kernel
theorem d_E_init_83 : decode b_E_init 83 = .ok (.anewarray 26, 3) := by decide +kernel
theorem d_E_init_86 : decode b_E_init 86 = .ok (.putfield 28, 3) := by decide +kernel
theorem d_E_init_89 : decode b_E_init 89 = .ok (.aload_n 0, 1) := by decide +kernel
theorem d_E_init_90 : decode b_E_init 90 = .ok (.bipush 16, 2) := by decide +kernel
theorem d_E_init_92 : decode b_E_init 92 = .ok (.anewarray 32, 3) := by decide +kernel
theorem d_E_init_95 : decode b_E_init 95 = .ok (.putfield 34, 3) := by decide +kernel
theorem d_E_init_98 : decode b_E_init 98 = .ok (.aload_n 0, 1) := by decide +kernel
theorem d_E_init_99 : decode b_E_init 99 = .ok (.new 38, 3) := by decide +kernel
theorem d_E_init_102 : decode b_E_init 102 = .ok (.dup, 1) := by decide +kernel
theorem d_E_init_103 : decode b_E_init 103 = .ok (.invokespecial 40, 3) := by decide +kernel
theorem d_E_init_106 : decode b_E_init 106 = .ok (.putfield 41, 3) := by decide +kernel
theorem d_E_init_109 : decode b_E_init 109 = .ok (.return_, 1) := by decide +kernel
theorem d_E_tool_0 : decode b_E_tool 0 = .ok (.aload_n 0, 1) := by decide +kernel
theorem d_E_tool_1 : decode b_E_tool 1 = .ok (.iload_n 1, 1) := by decide +kernel
theorem d_E_tool_2 : decode b_E_tool 2 = .ok (.invokevirtual 45, 3) := by decide +kernel
theorem d_E_tool_5 : decode b_E_tool 5 = .ok (.astore 4, 2) := by decide +kernel
theorem d_E_tool_7 : decode b_E_tool 7 = .ok (.iload_n 2, 1) := by decide +kernel
theorem d_E_tool_8 : decode b_E_tool 8 = .ok (.ldc 49, 2) := by decide +kernel
theorem d_E_tool_10 : decode b_E_tool 10 = .ok (.if_icmp .gt 12, 3) := by decide +kernel
theorem d_E_tool_13 : decode b_E_tool 13 = .ok (.iload_n 3, 1) := by decide +kernel
theorem d_E_tool_14 : decode b_E_tool 14 = .ok (.ifCond .lt 8, 3) := by decide +kernel
theorem d_E_tool_17 : decode b_E_tool 17 = .ok (.iload_n 3, 1) := by decide +kernel
theorem d_E_tool_18 : decode b_E_tool 18 = .ok (.iload_n 2, 1) := by decide +kernel
theorem d_E_tool_19 : decode b_E_tool 19 = .ok (.if_icmp .le 13, 3) := by decide +kernel
theorem d_E_tool_22 : decode b_E_tool 22 = .ok (.new 50, 3) := by decide +kernel
theorem d_E_tool_25 : decode b_E_tool 25 = .ok (.dup, 1) := by decide +kernel
theorem d_E_tool_26 : decode b_E_tool 26 = .ok (.ldc 52, 2) := by decide +kernel
theorem d_E_tool_28 : decode b_E_tool 28 = .ok (.invokespecial 54, 3) := by decide +kernel
theorem d_E_tool_31 : decode b_E_tool 31 = .ok (.athrow, 1) := by decide +kernel
theorem d_E_tool_32 : decode b_E_tool 32 = .ok (.aload_n 0, 1) := by decide +kernel
theorem d_E_tool_33 : decode b_E_tool 33 = .ok (.getfield 57, 3) := by decide +kernel
theorem d_E_tool_36 : decode b_E_tool 36 = .ok (.aload_n 0, 1) := by decide +kernel
theorem d_E_tool_37 : decode b_E_tool 37 = .ok (.getfield 28, 3) := by decide +kernel
theorem d_E_tool_40 : decode b_E_tool 40 = .ok (.arraylength, 1) := by decide +kernel
theorem d_E_tool_41 : decode b_E_tool 41 = .ok (.if_icmp .lt 13, 3) := by decide +kernel
theorem d_E_tool_44 : decode b_E_tool 44 = .ok (.new 60, 3) := by decide +kernel
theorem d_E_tool_47 : decode b_E_tool 47 = .ok (.dup, 1) := by decide +kernel
theorem d_E_tool_48 : decode b_E_tool 48 = .ok (.ldc 62, 2) := by decide +kernel
theorem d_E_tool_50 : decode b_E_tool 50 = .ok (.invokespecial 64, 3) := by decide +kernel
theorem d_E_tool_53 : decode b_E_tool 53 = .ok (.athrow, 1) := by decide +kernel
theorem d_E_tool_54 : decode b_E_tool 54 = .ok (.aload_n 0, 1) := by decide +kernel
theorem d_E_tool_55 : decode b_E_tool 55 = .ok (.getfield 57, 3) := by decide +kernel
theorem d_E_tool_58 : decode b_E_tool 58 = .ok (.istore 5, 2) := by decide +kernel
theorem d_E_tool_60 : decode b_E_tool 60 = .ok (.aload_n 0, 1) := by decide +kernel
theorem d_E_tool_61 : decode b_E_tool 61 = .ok (.getfield 28, 3) := by decide +kernel
theorem d_E_tool_64 : decode b_E_tool 64 = .ok (.iload 5, 2) := by decide +kernel
theorem d_E_tool_66 : decode b_E_tool 66 = .ok (.new 26, 3) := by decide +kernel
theorem d_E_tool_69 : decode b_E_tool 69 = .ok (.dup, 1) := by decide +kernel
theorem d_E_tool_70 : decode b_E_tool 70 = .ok (.aload 4, 2) := by decide +kernel
theorem d_E_tool_72 : decode b_E_tool 72 = .ok (.iload_n 2, 1) := by decide +kernel
theorem d_E_tool_73 : decode b_E_tool 73 = .ok (.iload_n 3, 1) := by decide +kernel
theorem d_E_tool_74 : decode b_E_tool 74 = .ok (.invokespecial 65, 3) := by decide +kernel
theorem d_E_tool_77 : decode b_E_tool 77 = .ok (.aastore, 1) := by decide +kernel
theorem d_E_tool_78 : decode b_E_tool 78 = .ok (.aload_n 0, 1) := by decide +kernel
theorem d_E_tool_79 : decode b_E_tool 79 = .ok (.iload 5, 2) := by decide +kernel
theorem d_E_tool_81 : decode b_E_tool 81 = .ok (.iconst 1, 1) := by decide +kernel
theorem d_E_tool_82 : decode b_E_tool 82 = .ok (.iadd, 1) := by decide +kernel
theorem d_E_tool_83 : decode b_E_tool 83 = .ok (.putfield 57, 3) := by decide +kernel
theorem d_E_tool_86 : decode b_E_tool 86 = .ok (.iload 5, 2) := by decide +kernel
theorem d_E_tool_88 : decode b_E_tool 88 = .ok (.ireturn, 1) := by decide +kernel
theorem d_E_rate_0 : decode b_E_rate 0 = .ok (.iload_n 1, 1) := by decide +kernel
theorem d_E_rate_1 : decode b_E_rate 1 = .ok (.iload_n 2, 1) := by decide +kernel
theorem d_E_rate_2 : decode b_E_rate 2 = .ok (.invokestatic 68, 3) := by decide +kernel
theorem d_E_rate_5 : decode b_E_rate 5 = .ok (.istore 4, 2) := by decide +kernel
theorem d_E_rate_7 : decode b_E_rate 7 = .ok (.iload_n 3, 1) := by decide +kernel
theorem d_E_rate_8 : decode b_E_rate 8 = .ok (.ifCond .lt 9, 3) := by decide +kernel
theorem d_E_rate_11 : decode b_E_rate 11 = .ok (.iload_n 3, 1) := by decide +kernel
theorem d_E_rate_12 : decode b_E_rate 12 = .ok (.ldc 49, 2) := by decide +kernel
theorem d_E_rate_14 : decode b_E_rate 14 = .ok (.if_icmp .le 13, 3) := by decide +kernel
theorem d_E_rate_17 : decode b_E_rate 17 = .ok (.new 50, 3) := by decide +kernel
theorem d_E_rate_20 : decode b_E_rate 20 = .ok (.dup, 1) := by decide +kernel
theorem d_E_rate_21 : decode b_E_rate 21 = .ok (.ldc 72, 2) := by decide +kernel
theorem d_E_rate_23 : decode b_E_rate 23 = .ok (.invokespecial 54, 3) := by decide +kernel
theorem d_E_rate_26 : decode b_E_rate 26 = .ok (.athrow, 1) := by decide +kernel
theorem d_E_rate_27 : decode b_E_rate 27 = .ok (.aload_n 0, 1) := by decide +kernel
theorem d_E_rate_28 : decode b_E_rate 28 = .ok (.getfield 13, 3) := by decide +kernel
theorem d_E_rate_31 : decode b_E_rate 31 = .ok (.iload 4, 2) := by decide +kernel
theorem d_E_rate_33 : decode b_E_rate 33 = .ok (.iload_n 3, 1) := by decide +kernel
theorem d_E_rate_34 : decode b_E_rate 34 = .ok (.iastore, 1) := by decide +kernel
theorem d_E_rate_35 : decode b_E_rate 35 = .ok (.return_, 1) := by decide +kernel
theorem d_E_limit_0 : decode b_E_limit 0 = .ok (.aload_n 0, 1) := by decide +kernel
theorem d_E_limit_1 : decode b_E_limit 1 = .ok (.iload_n 1, 1) := by decide +kernel
theorem d_E_limit_2 : decode b_E_limit 2 = .ok (.invokevirtual 45, 3) := by decide +kernel
theorem d_E_limit_5 : decode b_E_limit 5 = .ok (.astore 4, 2) := by decide +kernel
theorem d_E_limit_7 : decode b_E_limit 7 = .ok (.lload_n 2, 1) := by decide +kernel
theorem d_E_limit_8 : decode b_E_limit 8 = .ok (.lconst 1, 1) := by decide +kernel
theorem d_E_limit_9 : decode b_E_limit 9 = .ok (.lcmp, 1) := by decide +kernel
theorem d_E_limit_10 : decode b_E_limit 10 = .ok (.ifCond .lt 11, 3) := by decide +kernel
theorem d_E_limit_13 : decode b_E_limit 13 = .ok (.lload_n 2, 1) := by decide +kernel
theorem d_E_limit_14 : decode b_E_limit 14 = .ok (.ldc2_w 74, 3) := by decide +kernel
theorem d_E_limit_17 : decode b_E_limit 17 = .ok (.lcmp, 1) := by decide +kernel
theorem d_E_limit_18 : decode b_E_limit 18 = .ok (.ifCond .le 13, 3) := by decide +kernel
theorem d_E_limit_21 : decode b_E_limit 21 = .ok (.new 50, 3) := by decide +kernel
theorem d_E_limit_24 : decode b_E_limit 24 = .ok (.dup, 1) := by decide +kernel
theorem d_E_limit_25 : decode b_E_limit 25 = .ok (.ldc 76, 2) := by decide +kernel
theorem d_E_limit_27 : decode b_E_limit 27 = .ok (.invokespecial 54, 3) := by decide +kernel
theorem d_E_limit_30 : decode b_E_limit 30 = .ok (.athrow, 1) := by decide +kernel
theorem d_E_limit_31 : decode b_E_limit 31 = .ok (.aload 4, 2) := by decide +kernel
theorem d_E_limit_33 : decode b_E_limit 33 = .ok (.lload_n 2, 1) := by decide +kernel
theorem d_E_limit_34 : decode b_E_limit 34 = .ok (.putfield 78, 3) := by decide +kernel
theorem d_E_limit_37 : decode b_E_limit 37 = .ok (.return_, 1) := by decide +kernel
theorem d_E_use_0 : decode b_E_use 0 = .ok (.aload_n 0, 1) := by decide +kernel
theorem d_E_use_1 : decode b_E_use 1 = .ok (.iload_n 1, 1) := by decide +kernel
theorem d_E_use_2 : decode b_E_use 2 = .ok (.invokevirtual 82, 3) := by decide +kernel
theorem d_E_use_5 : decode b_E_use 5 = .ok (.astore 5, 2) := by decide +kernel
theorem d_E_use_7 : decode b_E_use 7 = .ok (.iload_n 3, 1) := by decide +kernel
theorem d_E_use_8 : decode b_E_use 8 = .ok (.iload 4, 2) := by decide +kernel
theorem d_E_use_10 : decode b_E_use 10 = .ok (.invokestatic 68, 3) := by decide +kernel
theorem d_E_use_13 : decode b_E_use 13 = .ok (.istore 6, 2) := by decide +kernel
theorem d_E_use_15 : decode b_E_use 15 = .ok (.iload_n 2, 1) := by decide +kernel
theorem d_E_use_16 : decode b_E_use 16 = .ok (.ifCond .lt 9, 3) := by decide +kernel
theorem d_E_use_19 : decode b_E_use 19 = .ok (.iload_n 2, 1) := by decide +kernel
theorem d_E_use_20 : decode b_E_use 20 = .ok (.ldc 49, 2) := by decide +kernel
theorem d_E_use_22 : decode b_E_use 22 = .ok (.if_icmp .le 13, 3) := by decide +kernel
theorem d_E_use_25 : decode b_E_use 25 = .ok (.new 50, 3) := by decide +kernel
theorem d_E_use_28 : decode b_E_use 28 = .ok (.dup, 1) := by decide +kernel
theorem d_E_use_29 : decode b_E_use 29 = .ok (.ldc 86, 2) := by decide +kernel
theorem d_E_use_31 : decode b_E_use 31 = .ok (.invokespecial 54, 3) := by decide +kernel
theorem d_E_use_34 : decode b_E_use 34 = .ok (.athrow, 1) := by decide +kernel
theorem d_E_use_35 : decode b_E_use 35 = .ok (.aload 5, 2) := by decide +kernel
theorem d_E_use_37 : decode b_E_use 37 = .ok (.getfield 88, 3) := by decide +kernel
theorem d_E_use_40 : decode b_E_use 40 = .ok (.ifCond .eq 13, 3) := by decide +kernel
theorem d_E_use_43 : decode b_E_use 43 = .ok (.new 60, 3) := by decide +kernel
theorem d_E_use_46 : decode b_E_use 46 = .ok (.dup, 1) := by decide +kernel
theorem d_E_use_47 : decode b_E_use 47 = .ok (.ldc 92, 2) := by decide +kernel
theorem d_E_use_49 : decode b_E_use 49 = .ok (.invokespecial 64, 3) := by decide +kernel
theorem d_E_use_52 : decode b_E_use 52 = .ok (.athrow, 1) := by decide +kernel
theorem d_E_use_53 : decode b_E_use 53 = .ok (.aload 5, 2) := by decide +kernel
theorem d_E_use_55 : decode b_E_use 55 = .ok (.iload_n 2, 1) := by decide +kernel
theorem d_E_use_56 : decode b_E_use 56 = .ok (.i2l, 1) := by decide +kernel
theorem d_E_use_57 : decode b_E_use 57 = .ok (.aload_n 0, 1) := by decide +kernel
theorem d_E_use_58 : decode b_E_use 58 = .ok (.getfield 13, 3) := by decide +kernel
theorem d_E_use_61 : decode b_E_use 61 = .ok (.iload 6, 2) := by decide +kernel
theorem d_E_use_63 : decode b_E_use 63 = .ok (.iaload, 1) := by decide +kernel
theorem d_E_use_64 : decode b_E_use 64 = .ok (.i2l, 1) := by decide +kernel
theorem d_E_use_65 : decode b_E_use 65 = .ok (.lmul, 1) := by decide +kernel
theorem d_E_use_66 : decode b_E_use 66 = .ok (.invokevirtual 94, 3) := by decide +kernel
theorem d_E_use_69 : decode b_E_use 69 = .ok (.aload 5, 2) := by decide +kernel
theorem d_E_use_71 : decode b_E_use 71 = .ok (.invokevirtual 98, 3) := by decide +kernel
theorem d_E_use_74 : decode b_E_use 74 = .ok (.ifCond .ne 7, 3) := by decide +kernel
theorem d_E_use_77 : decode b_E_use 77 = .ok (.iconst 1, 1) := by decide +kernel
theorem d_E_use_78 : decode b_E_use 78 = .ok (.goto 4, 3) := by decide +kernel
theorem d_E_use_81 : decode b_E_use 81 = .ok (.iconst 0, 1) := by decide +kernel
theorem d_E_use_82 : decode b_E_use 82 = .ok (.ireturn, 1) := by decide +kernel
theorem d_E_grind_0 : decode b_E_grind 0 = .ok (.aload_n 0, 1) := by decide +kernel
theorem d_E_grind_1 : decode b_E_grind 1 = .ok (.iload_n 1, 1) := by decide +kernel
theorem d_E_grind_2 : decode b_E_grind 2 = .ok (.invokevirtual 82, 3) := by decide +kernel
theorem d_E_grind_5 : decode b_E_grind 5 = .ok (.astore_n 3, 1) := by decide +kernel
theorem d_E_grind_6 : decode b_E_grind 6 = .ok (.iload_n 2, 1) := by decide +kernel
theorem d_E_grind_7 : decode b_E_grind 7 = .ok (.iconst 1, 1) := by decide +kernel
theorem d_E_grind_8 : decode b_E_grind 8 = .ok (.if_icmp .lt 9, 3) := by decide +kernel
theorem d_E_grind_11 : decode b_E_grind 11 = .ok (.iload_n 2, 1) := by decide +kernel
theorem d_E_grind_12 : decode b_E_grind 12 = .ok (.ldc 49, 2) := by decide +kernel
theorem d_E_grind_14 : decode b_E_grind 14 = .ok (.if_icmp .le 13, 3) := by decide +kernel
theorem d_E_grind_17 : decode b_E_grind 17 = .ok (.new 50, 3) := by decide +kernel
theorem d_E_grind_20 : decode b_E_grind 20 = .ok (.dup, 1) := by decide +kernel
theorem d_E_grind_21 : decode b_E_grind 21 = .ok (.ldc 102, 2) := by decide +kernel
theorem d_E_grind_23 : decode b_E_grind 23 = .ok (.invokespecial 54, 3) := by decide +kernel
theorem d_E_grind_26 : decode b_E_grind 26 = .ok (.athrow, 1) := by decide +kernel
theorem d_E_grind_27 : decode b_E_grind 27 = .ok (.aload_n 3, 1) := by decide +kernel
theorem d_E_grind_28 : decode b_E_grind 28 = .ok (.getfield 88, 3) := by decide +kernel
theorem d_E_grind_31 : decode b_E_grind 31 = .ok (.ifCond .eq 13, 3) := by decide +kernel
theorem d_E_grind_34 : decode b_E_grind 34 = .ok (.new 60, 3) := by decide +kernel
theorem d_E_grind_37 : decode b_E_grind 37 = .ok (.dup, 1) := by decide +kernel
theorem d_E_grind_38 : decode b_E_grind 38 = .ok (.ldc 92, 2) := by decide +kernel
theorem d_E_grind_40 : decode b_E_grind 40 = .ok (.invokespecial 64, 3) := by decide +kernel
theorem d_E_grind_43 : decode b_E_grind 43 = .ok (.athrow, 1) := by decide +kernel
theorem d_E_grind_44 : decode b_E_grind 44 = .ok (.aload_n 3, 1) := by decide +kernel
theorem d_E_grind_45 : decode b_E_grind 45 = .ok (.iload_n 2, 1) := by decide +kernel
theorem d_E_grind_46 : decode b_E_grind 46 = .ok (.invokevirtual 104, 3) := by decide +kernel
theorem d_E_grind_49 : decode b_E_grind 49 = .ok (.ireturn, 1) := by decide +kernel
theorem d_E_about_0 : decode b_E_about 0 = .ok (.aload_n 0, 1) := by decide +kernel
theorem d_E_about_1 : decode b_E_about 1 = .ok (.iload_n 1, 1) := by decide +kernel
theorem d_E_about_2 : decode b_E_about 2 = .ok (.invokevirtual 82, 3) := by decide +kernel
theorem d_E_about_5 : decode b_E_about 5 = .ok (.astore_n 3, 1) := by decide +kernel
theorem d_E_about_6 : decode b_E_about 6 = .ok (.iload_n 2, 1) := by decide +kernel
theorem d_E_about_7 : decode b_E_about 7 = .ok (.tableswitch 73 0 5 #[37, 42, 48, 57, 63, 68], 37) := by decide +kernel
theorem d_E_about_44 : decode b_E_about 44 = .ok (.aload_n 3, 1) := by decide +kernel
theorem d_E_about_45 : decode b_E_about 45 = .ok (.getfield 108, 3) := by decide +kernel
theorem d_E_about_48 : decode b_E_about 48 = .ok (.lreturn, 1) := by decide +kernel
theorem d_E_about_49 : decode b_E_about 49 = .ok (.aload_n 3, 1) := by decide +kernel
theorem d_E_about_50 : decode b_E_about 50 = .ok (.getfield 111, 3) := by decide +kernel
theorem d_E_about_53 : decode b_E_about 53 = .ok (.i2l, 1) := by decide +kernel
theorem d_E_about_54 : decode b_E_about 54 = .ok (.lreturn, 1) := by decide +kernel
theorem d_E_about_55 : decode b_E_about 55 = .ok (.aload_n 3, 1) := by decide +kernel
theorem d_E_about_56 : decode b_E_about 56 = .ok (.getfield 114, 3) := by decide +kernel
theorem d_E_about_59 : decode b_E_about 59 = .ok (.getfield 118, 3) := by decide +kernel
theorem d_E_about_62 : decode b_E_about 62 = .ok (.i2l, 1) := by decide +kernel
theorem d_E_about_63 : decode b_E_about 63 = .ok (.lreturn, 1) := by decide +kernel
theorem d_E_about_64 : decode b_E_about 64 = .ok (.aload_n 3, 1) := by decide +kernel
theorem d_E_about_65 : decode b_E_about 65 = .ok (.invokevirtual 121, 3) := by decide +kernel
theorem d_E_about_68 : decode b_E_about 68 = .ok (.i2l, 1) := by decide +kernel
theorem d_E_about_69 : decode b_E_about 69 = .ok (.lreturn, 1) := by decide +kernel
theorem d_E_about_70 : decode b_E_about 70 = .ok (.aload_n 3, 1) := by decide +kernel
theorem d_E_about_71 : decode b_E_about 71 = .ok (.getfield 125, 3) := by decide +kernel
theorem d_E_about_74 : decode b_E_about 74 = .ok (.lreturn, 1) := by decide +kernel
theorem d_E_about_75 : decode b_E_about 75 = .ok (.aload_n 3, 1) := by decide +kernel
theorem d_E_about_76 : decode b_E_about 76 = .ok (.getfield 128, 3) := by decide +kernel
theorem d_E_about_79 : decode b_E_about 79 = .ok (.lreturn, 1) := by decide +kernel
theorem d_E_about_80 : decode b_E_about 80 = .ok (.new 131, 3) := by decide +kernel
theorem d_E_about_83 : decode b_E_about 83 = .ok (.dup, 1) := by decide +kernel
theorem d_E_about_84 : decode b_E_about 84 = .ok (.ldc 133, 2) := by decide +kernel
theorem d_E_about_86 : decode b_E_about 86 = .ok (.invokespecial 135, 3) := by decide +kernel
theorem d_E_about_89 : decode b_E_about 89 = .ok (.athrow, 1) := by decide +kernel
theorem d_E_spare_0 : decode b_E_spare 0 = .ok (.aload_n 0, 1) := by decide +kernel
theorem d_E_spare_1 : decode b_E_spare 1 = .ok (.iload_n 1, 1) := by decide +kernel
theorem d_E_spare_2 : decode b_E_spare 2 = .ok (.invokevirtual 45, 3) := by decide +kernel
theorem d_E_spare_5 : decode b_E_spare 5 = .ok (.getfield 118, 3) := by decide +kernel
theorem d_E_spare_8 : decode b_E_spare 8 = .ok (.istore_n 2, 1) := by decide +kernel
theorem d_E_spare_9 : decode b_E_spare 9 = .ok (.iconst 0, 1) := by decide +kernel
theorem d_E_spare_10 : decode b_E_spare 10 = .ok (.istore_n 3, 1) := by decide +kernel
theorem d_E_spare_11 : decode b_E_spare 11 = .ok (.iconst 0, 1) := by decide +kernel
theorem d_E_spare_12 : decode b_E_spare 12 = .ok (.istore 4, 2) := by decide +kernel
theorem d_E_spare_14 : decode b_E_spare 14 = .ok (.iload 4, 2) := by decide +kernel
theorem d_E_spare_16 : decode b_E_spare 16 = .ok (.aload_n 0, 1) := by decide +kernel
theorem d_E_spare_17 : decode b_E_spare 17 = .ok (.getfield 28, 3) := by decide +kernel
theorem d_E_spare_20 : decode b_E_spare 20 = .ok (.arraylength, 1) := by decide +kernel
theorem d_E_spare_21 : decode b_E_spare 21 = .ok (.if_icmp .ge 35, 3) := by decide +kernel
theorem d_E_spare_24 : decode b_E_spare 24 = .ok (.aload_n 0, 1) := by decide +kernel
theorem d_E_spare_25 : decode b_E_spare 25 = .ok (.getfield 28, 3) := by decide +kernel
theorem d_E_spare_28 : decode b_E_spare 28 = .ok (.iload 4, 2) := by decide +kernel
theorem d_E_spare_30 : decode b_E_spare 30 = .ok (.aaload, 1) := by decide +kernel
theorem d_E_spare_31 : decode b_E_spare 31 = .ok (.astore 5, 2) := by decide +kernel
theorem d_E_spare_33 : decode b_E_spare 33 = .ok (.aload 5, 2) := by decide +kernel
theorem d_E_spare_35 : decode b_E_spare 35 = .ok (.ifnull 15, 3) := by decide +kernel
theorem d_E_spare_38 : decode b_E_spare 38 = .ok (.aload 5, 2) := by decide +kernel
theorem d_E_spare_40 : decode b_E_spare 40 = .ok (.iload_n 2, 1) := by decide +kernel
theorem d_E_spare_41 : decode b_E_spare 41 = .ok (.invokevirtual 136, 3) := by decide +kernel
theorem d_E_spare_44 : decode b_E_spare 44 = .ok (.ifCond .eq 6, 3) := by decide +kernel
theorem d_E_spare_47 : decode b_E_spare 47 = .ok (.iinc 3 1, 3) := by decide +kernel
theorem d_E_spare_50 : decode b_E_spare 50 = .ok (.iinc 4 1, 3) := by decide +kernel
theorem d_E_spare_53 : decode b_E_spare 53 = .ok (.goto (-39), 3) := by decide +kernel
theorem d_E_spare_56 : decode b_E_spare 56 = .ok (.iload_n 3, 1) := by decide +kernel
theorem d_E_spare_57 : decode b_E_spare 57 = .ok (.ireturn, 1) := by decide +kernel
theorem d_E_take_0 : decode b_E_take 0 = .ok (.aload_n 0, 1) := by decide +kernel
theorem d_E_take_1 : decode b_E_take 1 = .ok (.aload_n 0, 1) := by decide +kernel
theorem d_E_take_2 : decode b_E_take 2 = .ok (.iload_n 1, 1) := by decide +kernel
theorem d_E_take_3 : decode b_E_take 3 = .ok (.invokevirtual 45, 3) := by decide +kernel
theorem d_E_take_6 : decode b_E_take 6 = .ok (.getfield 118, 3) := by decide +kernel
theorem d_E_take_9 : decode b_E_take 9 = .ok (.invokevirtual 139, 3) := by decide +kernel
theorem d_E_take_12 : decode b_E_take 12 = .ok (.istore_n 2, 1) := by decide +kernel
theorem d_E_take_13 : decode b_E_take 13 = .ok (.iload_n 2, 1) := by decide +kernel
theorem d_E_take_14 : decode b_E_take 14 = .ok (.iconst (-1), 1) := by decide +kernel
theorem d_E_take_15 : decode b_E_take 15 = .ok (.if_icmp .eq 12, 3) := by decide +kernel
theorem d_E_take_18 : decode b_E_take 18 = .ok (.aload_n 0, 1) := by decide +kernel
theorem d_E_take_19 : decode b_E_take 19 = .ok (.iload_n 2, 1) := by decide +kernel
theorem d_E_take_20 : decode b_E_take 20 = .ok (.invokevirtual 82, 3) := by decide +kernel
theorem d_E_take_23 : decode b_E_take 23 = .ok (.iconst 1, 1) := by decide +kernel
theorem d_E_take_24 : decode b_E_take 24 = .ok (.putfield 143, 3) := by decide +kernel
theorem d_E_take_27 : decode b_E_take 27 = .ok (.iload_n 2, 1) := by decide +kernel
theorem d_E_take_28 : decode b_E_take 28 = .ok (.ireturn, 1) := by decide +kernel
theorem d_E_bring_0 : decode b_E_bring 0 = .ok (.aload_n 0, 1) := by decide +kernel
theorem d_E_bring_1 : decode b_E_bring 1 = .ok (.iload_n 1, 1) := by decide +kernel
theorem d_E_bring_2 : decode b_E_bring 2 = .ok (.invokevirtual 82, 3) := by decide +kernel
theorem d_E_bring_5 : decode b_E_bring 5 = .ok (.astore_n 2, 1) := by decide +kernel
theorem d_E_bring_6 : decode b_E_bring 6 = .ok (.aload_n 2, 1) := by decide +kernel
theorem d_E_bring_7 : decode b_E_bring 7 = .ok (.getfield 143, 3) := by decide +kernel
theorem d_E_bring_10 : decode b_E_bring 10 = .ok (.istore_n 3, 1) := by decide +kernel
theorem d_E_bring_11 : decode b_E_bring 11 = .ok (.aload_n 2, 1) := by decide +kernel
theorem d_E_bring_12 : decode b_E_bring 12 = .ok (.iconst 0, 1) := by decide +kernel
theorem d_E_bring_13 : decode b_E_bring 13 = .ok (.putfield 143, 3) := by decide +kernel
theorem d_E_bring_16 : decode b_E_bring 16 = .ok (.iload_n 3, 1) := by decide +kernel
theorem d_E_bring_17 : decode b_E_bring 17 = .ok (.ireturn, 1) := by decide +kernel
theorem d_E_life_0 : decode b_E_life 0 = .ok (.aload_n 0, 1) := by decide +kernel
theorem d_E_life_1 : decode b_E_life 1 = .ok (.iload_n 1, 1) := by decide +kernel
theorem d_E_life_2 : decode b_E_life 2 = .ok (.invokevirtual 45, 3) := by decide +kernel
theorem d_E_life_5 : decode b_E_life 5 = .ok (.astore_n 3, 1) := by decide +kernel
theorem d_E_life_6 : decode b_E_life 6 = .ok (.iload_n 2, 1) := by decide +kernel
theorem d_E_life_7 : decode b_E_life 7 = .ok (.iconst 1, 1) := by decide +kernel
theorem d_E_life_8 : decode b_E_life 8 = .ok (.if_icmp .lt 10, 3) := by decide +kernel
theorem d_E_life_11 : decode b_E_life 11 = .ok (.iload_n 2, 1) := by decide +kernel
theorem d_E_life_12 : decode b_E_life 12 = .ok (.sipush 1000, 3) := by decide +kernel
theorem d_E_life_15 : decode b_E_life 15 = .ok (.if_icmp .le 13, 3) := by decide +kernel
theorem d_E_life_18 : decode b_E_life 18 = .ok (.new 50, 3) := by decide +kernel
theorem d_E_life_21 : decode b_E_life 21 = .ok (.dup, 1) := by decide +kernel
theorem d_E_life_22 : decode b_E_life 22 = .ok (.ldc 146, 2) := by decide +kernel
theorem d_E_life_24 : decode b_E_life 24 = .ok (.invokespecial 54, 3) := by decide +kernel
theorem d_E_life_27 : decode b_E_life 27 = .ok (.athrow, 1) := by decide +kernel
theorem d_E_life_28 : decode b_E_life 28 = .ok (.aload_n 3, 1) := by decide +kernel
theorem d_E_life_29 : decode b_E_life 29 = .ok (.getfield 148, 3) := by decide +kernel
theorem d_E_life_32 : decode b_E_life 32 = .ok (.aload_n 3, 1) := by decide +kernel
theorem d_E_life_33 : decode b_E_life 33 = .ok (.getfield 151, 3) := by decide +kernel
theorem d_E_life_36 : decode b_E_life 36 = .ok (.arraylength, 1) := by decide +kernel
theorem d_E_life_37 : decode b_E_life 37 = .ok (.if_icmp .lt 13, 3) := by decide +kernel
theorem d_E_life_40 : decode b_E_life 40 = .ok (.new 60, 3) := by decide +kernel
theorem d_E_life_43 : decode b_E_life 43 = .ok (.dup, 1) := by decide +kernel
theorem d_E_life_44 : decode b_E_life 44 = .ok (.ldc 154, 2) := by decide +kernel
theorem d_E_life_46 : decode b_E_life 46 = .ok (.invokespecial 64, 3) := by decide +kernel
theorem d_E_life_49 : decode b_E_life 49 = .ok (.athrow, 1) := by decide +kernel
theorem d_E_life_50 : decode b_E_life 50 = .ok (.aload_n 3, 1) := by decide +kernel
theorem d_E_life_51 : decode b_E_life 51 = .ok (.getfield 151, 3) := by decide +kernel
theorem d_E_life_54 : decode b_E_life 54 = .ok (.aload_n 3, 1) := by decide +kernel
theorem d_E_life_55 : decode b_E_life 55 = .ok (.getfield 148, 3) := by decide +kernel
theorem d_E_life_58 : decode b_E_life 58 = .ok (.iload_n 2, 1) := by decide +kernel
theorem d_E_life_59 : decode b_E_life 59 = .ok (.iastore, 1) := by decide +kernel
theorem d_E_life_60 : decode b_E_life 60 = .ok (.aload_n 3, 1) := by decide +kernel
theorem d_E_life_61 : decode b_E_life 61 = .ok (.dup, 1) := by decide +kernel
theorem d_E_life_62 : decode b_E_life 62 = .ok (.getfield 148, 3) := by decide +kernel
theorem d_E_life_65 : decode b_E_life 65 = .ok (.iconst 1, 1) := by decide +kernel
theorem d_E_life_66 : decode b_E_life 66 = .ok (.iadd, 1) := by decide +kernel
theorem d_E_life_67 : decode b_E_life 67 = .ok (.putfield 148, 3) := by decide +kernel
theorem d_E_life_70 : decode b_E_life 70 = .ok (.aload_n 3, 1) := by decide +kernel
theorem d_E_life_71 : decode b_E_life 71 = .ok (.getfield 148, 3) := by decide +kernel
theorem d_E_life_74 : decode b_E_life 74 = .ok (.ireturn, 1) := by decide +kernel
theorem d_E_cost_0 : decode b_E_cost 0 = .ok (.aload_n 0, 1) := by decide +kernel
theorem d_E_cost_1 : decode b_E_cost 1 = .ok (.iload_n 1, 1) := by decide +kernel
theorem d_E_cost_2 : decode b_E_cost 2 = .ok (.invokevirtual 45, 3) := by decide +kernel
theorem d_E_cost_5 : decode b_E_cost 5 = .ok (.astore 4, 2) := by decide +kernel
theorem d_E_cost_7 : decode b_E_cost 7 = .ok (.iload_n 2, 1) := by decide +kernel
theorem d_E_cost_8 : decode b_E_cost 8 = .ok (.ifCond .lt 19, 3) := by decide +kernel
theorem d_E_cost_11 : decode b_E_cost 11 = .ok (.iload_n 2, 1) := by decide +kernel
theorem d_E_cost_12 : decode b_E_cost 12 = .ok (.ldc 49, 2) := by decide +kernel
theorem d_E_cost_14 : decode b_E_cost 14 = .ok (.if_icmp .gt 13, 3) := by decide +kernel
theorem d_E_cost_17 : decode b_E_cost 17 = .ok (.iload_n 3, 1) := by decide +kernel
theorem d_E_cost_18 : decode b_E_cost 18 = .ok (.ifCond .lt 9, 3) := by decide +kernel
theorem d_E_cost_21 : decode b_E_cost 21 = .ok (.iload_n 3, 1) := by decide +kernel
theorem d_E_cost_22 : decode b_E_cost 22 = .ok (.ldc 49, 2) := by decide +kernel
theorem d_E_cost_24 : decode b_E_cost 24 = .ok (.if_icmp .le 13, 3) := by decide +kernel
theorem d_E_cost_27 : decode b_E_cost 27 = .ok (.new 50, 3) := by decide +kernel
theorem d_E_cost_30 : decode b_E_cost 30 = .ok (.dup, 1) := by decide +kernel
theorem d_E_cost_31 : decode b_E_cost 31 = .ok (.ldc 156, 2) := by decide +kernel
theorem d_E_cost_33 : decode b_E_cost 33 = .ok (.invokespecial 54, 3) := by decide +kernel
theorem d_E_cost_36 : decode b_E_cost 36 = .ok (.athrow, 1) := by decide +kernel
theorem d_E_cost_37 : decode b_E_cost 37 = .ok (.aload 4, 2) := by decide +kernel
theorem d_E_cost_39 : decode b_E_cost 39 = .ok (.iload_n 2, 1) := by decide +kernel
theorem d_E_cost_40 : decode b_E_cost 40 = .ok (.putfield 158, 3) := by decide +kernel
theorem d_E_cost_43 : decode b_E_cost 43 = .ok (.aload 4, 2) := by decide +kernel
theorem d_E_cost_45 : decode b_E_cost 45 = .ok (.iload_n 3, 1) := by decide +kernel
theorem d_E_cost_46 : decode b_E_cost 46 = .ok (.putfield 161, 3) := by decide +kernel
theorem d_E_cost_49 : decode b_E_cost 49 = .ok (.return_, 1) := by decide +kernel
theorem d_E_change_0 : decode b_E_change 0 = .ok (.aload_n 0, 1) := by decide +kernel
theorem d_E_change_1 : decode b_E_change 1 = .ok (.iload_n 1, 1) := by decide +kernel
theorem d_E_change_2 : decode b_E_change 2 = .ok (.invokevirtual 45, 3) := by decide +kernel
theorem d_E_change_5 : decode b_E_change 5 = .ok (.astore_n 2, 1) := by decide +kernel
theorem d_E_change_6 : decode b_E_change 6 = .ok (.aload_n 2, 1) := by decide +kernel
theorem d_E_change_7 : decode b_E_change 7 = .ok (.getfield 148, 3) := by decide +kernel
theorem d_E_change_10 : decode b_E_change 10 = .ok (.ifCond .ne 13, 3) := by decide +kernel
theorem d_E_change_13 : decode b_E_change 13 = .ok (.new 60, 3) := by decide +kernel
theorem d_E_change_16 : decode b_E_change 16 = .ok (.dup, 1) := by decide +kernel
theorem d_E_change_17 : decode b_E_change 17 = .ok (.ldc 164, 2) := by decide +kernel
theorem d_E_change_19 : decode b_E_change 19 = .ok (.invokespecial 64, 3) := by decide +kernel
theorem d_E_change_22 : decode b_E_change 22 = .ok (.athrow, 1) := by decide +kernel
theorem d_E_change_23 : decode b_E_change 23 = .ok (.aload_n 2, 1) := by decide +kernel
theorem d_E_change_24 : decode b_E_change 24 = .ok (.invokevirtual 166, 3) := by decide +kernel
theorem d_E_change_27 : decode b_E_change 27 = .ok (.ireturn, 1) := by decide +kernel
theorem d_E_changed_0 : decode b_E_changed 0 = .ok (.aload_n 0, 1) := by decide +kernel
theorem d_E_changed_1 : decode b_E_changed 1 = .ok (.iload_n 1, 1) := by decide +kernel
theorem d_E_changed_2 : decode b_E_changed 2 = .ok (.invokevirtual 45, 3) := by decide +kernel
theorem d_E_changed_5 : decode b_E_changed 5 = .ok (.astore 4, 2) := by decide +kernel
theorem d_E_changed_7 : decode b_E_changed 7 = .ok (.iload_n 3, 1) := by decide +kernel
theorem d_E_changed_8 : decode b_E_changed 8 = .ok (.ifCond .eq 18, 3) := by decide +kernel
theorem d_E_changed_11 : decode b_E_changed 11 = .ok (.iload_n 3, 1) := by decide +kernel
theorem d_E_changed_12 : decode b_E_changed 12 = .ok (.iconst 1, 1) := by decide +kernel
theorem d_E_changed_13 : decode b_E_changed 13 = .ok (.if_icmp .eq 13, 3) := by decide +kernel
theorem d_E_changed_16 : decode b_E_changed 16 = .ok (.new 131, 3) := by decide +kernel
theorem d_E_changed_19 : decode b_E_changed 19 = .ok (.dup, 1) := by decide +kernel
theorem d_E_changed_20 : decode b_E_changed 20 = .ok (.ldc 169, 2) := by decide +kernel
theorem d_E_changed_22 : decode b_E_changed 22 = .ok (.invokespecial 135, 3) := by decide +kernel
theorem d_E_changed_25 : decode b_E_changed 25 = .ok (.athrow, 1) := by decide +kernel
theorem d_E_changed_26 : decode b_E_changed 26 = .ok (.iload_n 2, 1) := by decide +kernel
theorem d_E_changed_27 : decode b_E_changed 27 = .ok (.iconst 1, 1) := by decide +kernel
theorem d_E_changed_28 : decode b_E_changed 28 = .ok (.if_icmp .ge 13, 3) := by decide +kernel
theorem d_E_changed_31 : decode b_E_changed 31 = .ok (.new 50, 3) := by decide +kernel
theorem d_E_changed_34 : decode b_E_changed 34 = .ok (.dup, 1) := by decide +kernel
theorem d_E_changed_35 : decode b_E_changed 35 = .ok (.ldc 171, 2) := by decide +kernel
theorem d_E_changed_37 : decode b_E_changed 37 = .ok (.invokespecial 54, 3) := by decide +kernel
theorem d_E_changed_40 : decode b_E_changed 40 = .ok (.athrow, 1) := by decide +kernel
theorem d_E_changed_41 : decode b_E_changed 41 = .ok (.iload_n 2, 1) := by decide +kernel
theorem d_E_changed_42 : decode b_E_changed 42 = .ok (.aload 4, 2) := by decide +kernel
theorem d_E_changed_44 : decode b_E_changed 44 = .ok (.invokevirtual 173, 3) := by decide +kernel
theorem d_E_changed_47 : decode b_E_changed 47 = .ok (.if_icmp .le 13, 3) := by decide +kernel
theorem d_E_changed_50 : decode b_E_changed 50 = .ok (.new 60, 3) := by decide +kernel
theorem d_E_changed_53 : decode b_E_changed 53 = .ok (.dup, 1) := by decide +kernel
theorem d_E_changed_54 : decode b_E_changed 54 = .ok (.ldc 176, 2) := by decide +kernel
theorem d_E_changed_56 : decode b_E_changed 56 = .ok (.invokespecial 64, 3) := by decide +kernel
theorem d_E_changed_59 : decode b_E_changed 59 = .ok (.athrow, 1) := by decide +kernel
theorem d_E_changed_60 : decode b_E_changed 60 = .ok (.iload_n 3, 1) := by decide +kernel
theorem d_E_changed_61 : decode b_E_changed 61 = .ok (.ifCond .ne 12, 3) := by decide +kernel
theorem d_E_changed_64 : decode b_E_changed 64 = .ok (.aload 4, 2) := by decide +kernel
theorem d_E_changed_66 : decode b_E_changed 66 = .ok (.iload_n 2, 1) := by decide +kernel
theorem d_E_changed_67 : decode b_E_changed 67 = .ok (.invokevirtual 178, 3) := by decide +kernel
theorem d_E_changed_70 : decode b_E_changed 70 = .ok (.goto 9, 3) := by decide +kernel
theorem d_E_changed_73 : decode b_E_changed 73 = .ok (.aload 4, 2) := by decide +kernel
theorem d_E_changed_75 : decode b_E_changed 75 = .ok (.iload_n 2, 1) := by decide +kernel
theorem d_E_changed_76 : decode b_E_changed 76 = .ok (.invokevirtual 182, 3) := by decide +kernel
theorem d_E_changed_79 : decode b_E_changed 79 = .ok (.lreturn, 1) := by decide +kernel
theorem d_E_breaks_0 : decode b_E_breaks 0 = .ok (.aload_n 0, 1) := by decide +kernel
theorem d_E_breaks_1 : decode b_E_breaks 1 = .ok (.iload_n 1, 1) := by decide +kernel
theorem d_E_breaks_2 : decode b_E_breaks 2 = .ok (.invokevirtual 45, 3) := by decide +kernel
theorem d_E_breaks_5 : decode b_E_breaks 5 = .ok (.astore_n 3, 1) := by decide +kernel
theorem d_E_breaks_6 : decode b_E_breaks 6 = .ok (.iload_n 2, 1) := by decide +kernel
theorem d_E_breaks_7 : decode b_E_breaks 7 = .ok (.ifCond .ge 13, 3) := by decide +kernel
theorem d_E_breaks_10 : decode b_E_breaks 10 = .ok (.new 50, 3) := by decide +kernel
theorem d_E_breaks_13 : decode b_E_breaks 13 = .ok (.dup, 1) := by decide +kernel
theorem d_E_breaks_14 : decode b_E_breaks 14 = .ok (.ldc 185, 2) := by decide +kernel
theorem d_E_breaks_16 : decode b_E_breaks 16 = .ok (.invokespecial 54, 3) := by decide +kernel
theorem d_E_breaks_19 : decode b_E_breaks 19 = .ok (.athrow, 1) := by decide +kernel
theorem d_E_breaks_20 : decode b_E_breaks 20 = .ok (.aload_n 3, 1) := by decide +kernel
theorem d_E_breaks_21 : decode b_E_breaks 21 = .ok (.getfield 148, 3) := by decide +kernel
theorem d_E_breaks_24 : decode b_E_breaks 24 = .ok (.ifCond .ne 13, 3) := by decide +kernel
theorem d_E_breaks_27 : decode b_E_breaks 27 = .ok (.new 60, 3) := by decide +kernel
theorem d_E_breaks_30 : decode b_E_breaks 30 = .ok (.dup, 1) := by decide +kernel
theorem d_E_breaks_31 : decode b_E_breaks 31 = .ok (.ldc 164, 2) := by decide +kernel
theorem d_E_breaks_33 : decode b_E_breaks 33 = .ok (.invokespecial 64, 3) := by decide +kernel
theorem d_E_breaks_36 : decode b_E_breaks 36 = .ok (.athrow, 1) := by decide +kernel
theorem d_E_breaks_37 : decode b_E_breaks 37 = .ok (.aload_n 0, 1) := by decide +kernel
theorem d_E_breaks_38 : decode b_E_breaks 38 = .ok (.iload_n 1, 1) := by decide +kernel
theorem d_E_breaks_39 : decode b_E_breaks 39 = .ok (.iload_n 2, 1) := by decide +kernel
theorem d_E_breaks_40 : decode b_E_breaks 40 = .ok (.invokevirtual 187, 3) := by decide +kernel
theorem d_E_breaks_43 : decode b_E_breaks 43 = .ok (.iconst 1, 1) := by decide +kernel
theorem d_E_breaks_44 : decode b_E_breaks 44 = .ok (.lushr, 1) := by decide +kernel
theorem d_E_breaks_45 : decode b_E_breaks 45 = .ok (.aload_n 3, 1) := by decide +kernel
theorem d_E_breaks_46 : decode b_E_breaks 46 = .ok (.getfield 148, 3) := by decide +kernel
theorem d_E_breaks_49 : decode b_E_breaks 49 = .ok (.i2l, 1) := by decide +kernel
theorem d_E_breaks_50 : decode b_E_breaks 50 = .ok (.lrem, 1) := by decide +kernel
theorem d_E_breaks_51 : decode b_E_breaks 51 = .ok (.l2i, 1) := by decide +kernel
theorem d_E_breaks_52 : decode b_E_breaks 52 = .ok (.istore 4, 2) := by decide +kernel
theorem d_E_breaks_54 : decode b_E_breaks 54 = .ok (.aload_n 3, 1) := by decide +kernel
theorem d_E_breaks_55 : decode b_E_breaks 55 = .ok (.getfield 151, 3) := by decide +kernel
theorem d_E_breaks_58 : decode b_E_breaks 58 = .ok (.iload 4, 2) := by decide +kernel
theorem d_E_breaks_60 : decode b_E_breaks 60 = .ok (.iaload, 1) := by decide +kernel
theorem d_E_breaks_61 : decode b_E_breaks 61 = .ok (.ireturn, 1) := by decide +kernel
theorem d_E_rules_0 : decode b_E_rules 0 = .ok (.iload_n 1, 1) := by decide +kernel
theorem d_E_rules_1 : decode b_E_rules 1 = .ok (.ifCond .lt 31, 3) := by decide +kernel
theorem d_E_rules_4 : decode b_E_rules 4 = .ok (.iload_n 1, 1) := by decide +kernel
theorem d_E_rules_5 : decode b_E_rules 5 = .ok (.ldc 49, 2) := by decide +kernel
theorem d_E_rules_7 : decode b_E_rules 7 = .ok (.if_icmp .gt 25, 3) := by decide +kernel
theorem d_E_rules_10 : decode b_E_rules 10 = .ok (.iload_n 3, 1) := by decide +kernel
theorem d_E_rules_11 : decode b_E_rules 11 = .ok (.ifCond .lt 21, 3) := by decide +kernel
theorem d_E_rules_14 : decode b_E_rules 14 = .ok (.iload_n 3, 1) := by decide +kernel
theorem d_E_rules_15 : decode b_E_rules 15 = .ok (.ldc 49, 2) := by decide +kernel
theorem d_E_rules_17 : decode b_E_rules 17 = .ok (.if_icmp .gt 15, 3) := by decide +kernel
theorem d_E_rules_20 : decode b_E_rules 20 = .ok (.iload 4, 2) := by decide +kernel
theorem d_E_rules_22 : decode b_E_rules 22 = .ok (.ifCond .lt 10, 3) := by decide +kernel
theorem d_E_rules_25 : decode b_E_rules 25 = .ok (.iload 4, 2) := by decide +kernel
theorem d_E_rules_27 : decode b_E_rules 27 = .ok (.ldc 49, 2) := by decide +kernel
theorem d_E_rules_29 : decode b_E_rules 29 = .ok (.if_icmp .le 13, 3) := by decide +kernel
theorem d_E_rules_32 : decode b_E_rules 32 = .ok (.new 50, 3) := by decide +kernel
theorem d_E_rules_35 : decode b_E_rules 35 = .ok (.dup, 1) := by decide +kernel
theorem d_E_rules_36 : decode b_E_rules 36 = .ok (.ldc 191, 2) := by decide +kernel
theorem d_E_rules_38 : decode b_E_rules 38 = .ok (.invokespecial 54, 3) := by decide +kernel
theorem d_E_rules_41 : decode b_E_rules 41 = .ok (.athrow, 1) := by decide +kernel
theorem d_E_rules_42 : decode b_E_rules 42 = .ok (.iload_n 2, 1) := by decide +kernel
theorem d_E_rules_43 : decode b_E_rules 43 = .ok (.iconst 2, 1) := by decide +kernel
theorem d_E_rules_44 : decode b_E_rules 44 = .ok (.if_icmp .lt 9, 3) := by decide +kernel
theorem d_E_rules_47 : decode b_E_rules 47 = .ok (.iload_n 2, 1) := by decide +kernel
theorem d_E_rules_48 : decode b_E_rules 48 = .ok (.bipush 12, 2) := by decide +kernel
theorem d_E_rules_50 : decode b_E_rules 50 = .ok (.if_icmp .le 13, 3) := by decide +kernel
theorem d_E_rules_53 : decode b_E_rules 53 = .ok (.new 50, 3) := by decide +kernel
theorem d_E_rules_56 : decode b_E_rules 56 = .ok (.dup, 1) := by decide +kernel
theorem d_E_rules_57 : decode b_E_rules 57 = .ok (.ldc 193, 2) := by decide +kernel
theorem d_E_rules_59 : decode b_E_rules 59 = .ok (.invokespecial 54, 3) := by decide +kernel
theorem d_E_rules_62 : decode b_E_rules 62 = .ok (.athrow, 1) := by decide +kernel
theorem d_E_rules_63 : decode b_E_rules 63 = .ok (.aload_n 0, 1) := by decide +kernel
theorem d_E_rules_64 : decode b_E_rules 64 = .ok (.getfield 41, 3) := by decide +kernel
theorem d_E_rules_67 : decode b_E_rules 67 = .ok (.iload_n 1, 1) := by decide +kernel
theorem d_E_rules_68 : decode b_E_rules 68 = .ok (.putfield 195, 3) := by decide +kernel
theorem d_E_rules_71 : decode b_E_rules 71 = .ok (.aload_n 0, 1) := by decide +kernel
theorem d_E_rules_72 : decode b_E_rules 72 = .ok (.getfield 41, 3) := by decide +kernel
theorem d_E_rules_75 : decode b_E_rules 75 = .ok (.iload_n 2, 1) := by decide +kernel
theorem d_E_rules_76 : decode b_E_rules 76 = .ok (.putfield 198, 3) := by decide +kernel
theorem d_E_rules_79 : decode b_E_rules 79 = .ok (.aload_n 0, 1) := by decide +kernel
theorem d_E_rules_80 : decode b_E_rules 80 = .ok (.getfield 41, 3) := by decide +kernel
theorem d_E_rules_83 : decode b_E_rules 83 = .ok (.iload_n 3, 1) := by decide +kernel
theorem d_E_rules_84 : decode b_E_rules 84 = .ok (.putfield 201, 3) := by decide +kernel
theorem d_E_rules_87 : decode b_E_rules 87 = .ok (.aload_n 0, 1) := by decide +kernel
theorem d_E_rules_88 : decode b_E_rules 88 = .ok (.getfield 41, 3) := by decide +kernel
theorem d_E_rules_91 : decode b_E_rules 91 = .ok (.iload 4, 2) := by decide +kernel
theorem d_E_rules_93 : decode b_E_rules 93 = .ok (.putfield 204, 3) := by decide +kernel
theorem d_E_rules_96 : decode b_E_rules 96 = .ok (.return_, 1) := by decide +kernel
theorem d_E_power_0 : decode b_E_power 0 = .ok (.aload_n 0, 1) := by decide +kernel
theorem d_E_power_1 : decode b_E_power 1 = .ok (.iload_n 1, 1) := by decide +kernel
theorem d_E_power_2 : decode b_E_power 2 = .ok (.invokevirtual 82, 3) := by decide +kernel
theorem d_E_power_5 : decode b_E_power 5 = .ok (.getfield 207, 3) := by decide +kernel
theorem d_E_power_8 : decode b_E_power 8 = .ok (.astore 4, 2) := by decide +kernel
theorem d_E_power_10 : decode b_E_power 10 = .ok (.iload_n 3, 1) := by decide +kernel
theorem d_E_power_11 : decode b_E_power 11 = .ok (.ifCond .lt 9, 3) := by decide +kernel
theorem d_E_power_14 : decode b_E_power 14 = .ok (.iload_n 3, 1) := by decide +kernel
theorem d_E_power_15 : decode b_E_power 15 = .ok (.ldc 49, 2) := by decide +kernel
theorem d_E_power_17 : decode b_E_power 17 = .ok (.if_icmp .le 13, 3) := by decide +kernel
theorem d_E_power_20 : decode b_E_power 20 = .ok (.new 50, 3) := by decide +kernel
theorem d_E_power_23 : decode b_E_power 23 = .ok (.dup, 1) := by decide +kernel
theorem d_E_power_24 : decode b_E_power 24 = .ok (.ldc 211, 2) := by decide +kernel
theorem d_E_power_26 : decode b_E_power 26 = .ok (.invokespecial 54, 3) := by decide +kernel
theorem d_E_power_29 : decode b_E_power 29 = .ok (.athrow, 1) := by decide +kernel
theorem d_E_power_30 : decode b_E_power 30 = .ok (.iload_n 2, 1) := by decide +kernel
theorem d_E_power_31 : decode b_E_power 31 = .ok (.aload 4, 2) := by decide +kernel
theorem d_E_power_33 : decode b_E_power 33 = .ok (.getfield 213, 3) := by decide +kernel
theorem d_E_power_36 : decode b_E_power 36 = .ok (.if_icmp .gt 13, 3) := by decide +kernel
theorem d_E_power_39 : decode b_E_power 39 = .ok (.new 50, 3) := by decide +kernel
theorem d_E_power_42 : decode b_E_power 42 = .ok (.dup, 1) := by decide +kernel
theorem d_E_power_43 : decode b_E_power 43 = .ok (.ldc 218, 2) := by decide +kernel
theorem d_E_power_45 : decode b_E_power 45 = .ok (.invokespecial 54, 3) := by decide +kernel
theorem d_E_power_48 : decode b_E_power 48 = .ok (.athrow, 1) := by decide +kernel
theorem d_E_power_49 : decode b_E_power 49 = .ok (.aload 4, 2) := by decide +kernel
theorem d_E_power_51 : decode b_E_power 51 = .ok (.iload_n 2, 1) := by decide +kernel
theorem d_E_power_52 : decode b_E_power 52 = .ok (.iload_n 3, 1) := by decide +kernel
theorem d_E_power_53 : decode b_E_power 53 = .ok (.invokevirtual 220, 3) := by decide +kernel
theorem d_E_power_56 : decode b_E_power 56 = .ok (.aload_n 0, 1) := by decide +kernel
theorem d_E_power_57 : decode b_E_power 57 = .ok (.getfield 41, 3) := by decide +kernel
theorem d_E_power_60 : decode b_E_power 60 = .ok (.aload 4, 2) := by decide +kernel
theorem d_E_power_62 : decode b_E_power 62 = .ok (.invokevirtual 224, 3) := by decide +kernel
theorem d_E_power_65 : decode b_E_power 65 = .ok (.ireturn, 1) := by decide +kernel
theorem d_E_order_0 : decode b_E_order 0 = .ok (.aload_n 0, 1) := by decide +kernel
theorem d_E_order_1 : decode b_E_order 1 = .ok (.iload_n 1, 1) := by decide +kernel
theorem d_E_order_2 : decode b_E_order 2 = .ok (.invokevirtual 82, 3) := by decide +kernel
theorem d_E_order_5 : decode b_E_order 5 = .ok (.astore_n 3, 1) := by decide +kernel
theorem d_E_order_6 : decode b_E_order 6 = .ok (.iload_n 2, 1) := by decide +kernel
theorem d_E_order_7 : decode b_E_order 7 = .ok (.ifCond .lt 10, 3) := by decide +kernel
theorem d_E_order_10 : decode b_E_order 10 = .ok (.iload_n 2, 1) := by decide +kernel
theorem d_E_order_11 : decode b_E_order 11 = .ok (.sipush 10000, 3) := by decide +kernel
theorem d_E_order_14 : decode b_E_order 14 = .ok (.if_icmp .le 13, 3) := by decide +kernel
theorem d_E_order_17 : decode b_E_order 17 = .ok (.new 50, 3) := by decide +kernel
theorem d_E_order_20 : decode b_E_order 20 = .ok (.dup, 1) := by decide +kernel
theorem d_E_order_21 : decode b_E_order 21 = .ok (.ldc 228, 2) := by decide +kernel
theorem d_E_order_23 : decode b_E_order 23 = .ok (.invokespecial 54, 3) := by decide +kernel
theorem d_E_order_26 : decode b_E_order 26 = .ok (.athrow, 1) := by decide +kernel
theorem d_E_order_27 : decode b_E_order 27 = .ok (.aload_n 0, 1) := by decide +kernel
theorem d_E_order_28 : decode b_E_order 28 = .ok (.getfield 230, 3) := by decide +kernel
theorem d_E_order_31 : decode b_E_order 31 = .ok (.aload_n 0, 1) := by decide +kernel
theorem d_E_order_32 : decode b_E_order 32 = .ok (.getfield 34, 3) := by decide +kernel
theorem d_E_order_35 : decode b_E_order 35 = .ok (.arraylength, 1) := by decide +kernel
theorem d_E_order_36 : decode b_E_order 36 = .ok (.if_icmp .lt 5, 3) := by decide +kernel
theorem d_E_order_39 : decode b_E_order 39 = .ok (.iconst 0, 1) := by decide +kernel
theorem d_E_order_40 : decode b_E_order 40 = .ok (.ireturn, 1) := by decide +kernel
theorem d_E_order_41 : decode b_E_order 41 = .ok (.aload_n 0, 1) := by decide +kernel
theorem d_E_order_42 : decode b_E_order 42 = .ok (.getfield 34, 3) := by decide +kernel
theorem d_E_order_45 : decode b_E_order 45 = .ok (.aload_n 0, 1) := by decide +kernel
theorem d_E_order_46 : decode b_E_order 46 = .ok (.getfield 230, 3) := by decide +kernel
theorem d_E_order_49 : decode b_E_order 49 = .ok (.new 32, 3) := by decide +kernel
theorem d_E_order_52 : decode b_E_order 52 = .ok (.dup, 1) := by decide +kernel
theorem d_E_order_53 : decode b_E_order 53 = .ok (.aload_n 3, 1) := by decide +kernel
theorem d_E_order_54 : decode b_E_order 54 = .ok (.getfield 114, 3) := by decide +kernel
theorem d_E_order_57 : decode b_E_order 57 = .ok (.getfield 118, 3) := by decide +kernel
theorem d_E_order_60 : decode b_E_order 60 = .ok (.iload_n 2, 1) := by decide +kernel
theorem d_E_order_61 : decode b_E_order 61 = .ok (.invokespecial 233, 3) := by decide +kernel
theorem d_E_order_64 : decode b_E_order 64 = .ok (.aastore, 1) := by decide +kernel
theorem d_E_order_65 : decode b_E_order 65 = .ok (.aload_n 0, 1) := by decide +kernel
theorem d_E_order_66 : decode b_E_order 66 = .ok (.dup, 1) := by decide +kernel
theorem d_E_order_67 : decode b_E_order 67 = .ok (.getfield 230, 3) := by decide +kernel
theorem d_E_order_70 : decode b_E_order 70 = .ok (.iconst 1, 1) := by decide +kernel
theorem d_E_order_71 : decode b_E_order 71 = .ok (.iadd, 1) := by decide +kernel
theorem d_E_order_72 : decode b_E_order 72 = .ok (.putfield 230, 3) := by decide +kernel
theorem d_E_order_75 : decode b_E_order 75 = .ok (.iconst 1, 1) := by decide +kernel
theorem d_E_order_76 : decode b_E_order 76 = .ok (.ireturn, 1) := by decide +kernel
theorem d_E_joined_0 : decode b_E_joined 0 = .ok (.aload_n 0, 1) := by decide +kernel
theorem d_E_joined_1 : decode b_E_joined 1 = .ok (.iload_n 1, 1) := by decide +kernel
theorem d_E_joined_2 : decode b_E_joined 2 = .ok (.invokevirtual 45, 3) := by decide +kernel
theorem d_E_joined_5 : decode b_E_joined 5 = .ok (.getfield 118, 3) := by decide +kernel
theorem d_E_joined_8 : decode b_E_joined 8 = .ok (.istore_n 3, 1) := by decide +kernel
theorem d_E_joined_9 : decode b_E_joined 9 = .ok (.iload_n 2, 1) := by decide +kernel
theorem d_E_joined_10 : decode b_E_joined 10 = .ok (.ifCond .lt 10, 3) := by decide +kernel
theorem d_E_joined_13 : decode b_E_joined 13 = .ok (.iload_n 2, 1) := by decide +kernel
theorem d_E_joined_14 : decode b_E_joined 14 = .ok (.sipush 10000, 3) := by decide +kernel
theorem d_E_joined_17 : decode b_E_joined 17 = .ok (.if_icmp .le 13, 3) := by decide +kernel
theorem d_E_joined_20 : decode b_E_joined 20 = .ok (.new 50, 3) := by decide +kernel
theorem d_E_joined_23 : decode b_E_joined 23 = .ok (.dup, 1) := by decide +kernel
theorem d_E_joined_24 : decode b_E_joined 24 = .ok (.ldc 228, 2) := by decide +kernel
theorem d_E_joined_26 : decode b_E_joined 26 = .ok (.invokespecial 54, 3) := by decide +kernel
theorem d_E_joined_29 : decode b_E_joined 29 = .ok (.athrow, 1) := by decide +kernel
theorem d_E_joined_30 : decode b_E_joined 30 = .ok (.aload_n 0, 1) := by decide +kernel
theorem d_E_joined_31 : decode b_E_joined 31 = .ok (.iload_n 3, 1) := by decide +kernel
theorem d_E_joined_32 : decode b_E_joined 32 = .ok (.iload_n 2, 1) := by decide +kernel
theorem d_E_joined_33 : decode b_E_joined 33 = .ok (.iconst 2, 1) := by decide +kernel
theorem d_E_joined_34 : decode b_E_joined 34 = .ok (.iadd, 1) := by decide +kernel
theorem d_E_joined_35 : decode b_E_joined 35 = .ok (.invokevirtual 235, 3) := by decide +kernel
theorem d_E_joined_38 : decode b_E_joined 38 = .ok (.ifCond .ne 5, 3) := by decide +kernel
theorem d_E_joined_41 : decode b_E_joined 41 = .ok (.iconst 0, 1) := by decide +kernel
theorem d_E_joined_42 : decode b_E_joined 42 = .ok (.ireturn, 1) := by decide +kernel
theorem d_E_joined_43 : decode b_E_joined 43 = .ok (.aload_n 0, 1) := by decide +kernel
theorem d_E_joined_44 : decode b_E_joined 44 = .ok (.iload_n 3, 1) := by decide +kernel
theorem d_E_joined_45 : decode b_E_joined 45 = .ok (.iload_n 2, 1) := by decide +kernel
theorem d_E_joined_46 : decode b_E_joined 46 = .ok (.bipush 7, 2) := by decide +kernel
theorem d_E_joined_48 : decode b_E_joined 48 = .ok (.iadd, 1) := by decide +kernel
theorem d_E_joined_49 : decode b_E_joined 49 = .ok (.invokevirtual 239, 3) := by decide +kernel
theorem d_E_joined_52 : decode b_E_joined 52 = .ok (.ireturn, 1) := by decide +kernel
theorem d_E_open_0 : decode b_E_open 0 = .ok (.iconst 0, 1) := by decide +kernel
theorem d_E_open_1 : decode b_E_open 1 = .ok (.istore_n 1, 1) := by decide +kernel
theorem d_E_open_2 : decode b_E_open 2 = .ok (.iconst 0, 1) := by decide +kernel
theorem d_E_open_3 : decode b_E_open 3 = .ok (.istore_n 2, 1) := by decide +kernel
theorem d_E_open_4 : decode b_E_open 4 = .ok (.iload_n 2, 1) := by decide +kernel
theorem d_E_open_5 : decode b_E_open 5 = .ok (.aload_n 0, 1) := by decide +kernel
theorem d_E_open_6 : decode b_E_open 6 = .ok (.getfield 34, 3) := by decide +kernel
theorem d_E_open_9 : decode b_E_open 9 = .ok (.arraylength, 1) := by decide +kernel
theorem d_E_open_10 : decode b_E_open 10 = .ok (.if_icmp .ge 30, 3) := by decide +kernel
theorem d_E_open_13 : decode b_E_open 13 = .ok (.aload_n 0, 1) := by decide +kernel
theorem d_E_open_14 : decode b_E_open 14 = .ok (.getfield 34, 3) := by decide +kernel
theorem d_E_open_17 : decode b_E_open 17 = .ok (.iload_n 2, 1) := by decide +kernel
theorem d_E_open_18 : decode b_E_open 18 = .ok (.aaload, 1) := by decide +kernel
theorem d_E_open_19 : decode b_E_open 19 = .ok (.astore_n 3, 1) := by decide +kernel
theorem d_E_open_20 : decode b_E_open 20 = .ok (.aload_n 3, 1) := by decide +kernel
theorem d_E_open_21 : decode b_E_open 21 = .ok (.ifnull 13, 3) := by decide +kernel
theorem d_E_open_24 : decode b_E_open 24 = .ok (.aload_n 3, 1) := by decide +kernel
theorem d_E_open_25 : decode b_E_open 25 = .ok (.getfield 242, 3) := by decide +kernel
theorem d_E_open_28 : decode b_E_open 28 = .ok (.ifCond .ne 6, 3) := by decide +kernel
theorem d_E_open_31 : decode b_E_open 31 = .ok (.iinc 1 1, 3) := by decide +kernel
theorem d_E_open_34 : decode b_E_open 34 = .ok (.iinc 2 1, 3) := by decide +kernel
theorem d_E_open_37 : decode b_E_open 37 = .ok (.goto (-33), 3) := by decide +kernel
theorem d_E_open_40 : decode b_E_open 40 = .ok (.iload_n 1, 1) := by decide +kernel
theorem d_E_open_41 : decode b_E_open 41 = .ok (.ireturn, 1) := by decide +kernel
theorem d_E_chip_0 : decode b_E_chip 0 = .ok (.iload 4, 2) := by decide +kernel
theorem d_E_chip_2 : decode b_E_chip 2 = .ok (.ifCond .eq 19, 3) := by decide +kernel
theorem d_E_chip_5 : decode b_E_chip 5 = .ok (.iload 4, 2) := by decide +kernel
theorem d_E_chip_7 : decode b_E_chip 7 = .ok (.iconst 1, 1) := by decide +kernel
theorem d_E_chip_8 : decode b_E_chip 8 = .ok (.if_icmp .eq 13, 3) := by decide +kernel
theorem d_E_chip_11 : decode b_E_chip 11 = .ok (.new 131, 3) := by decide +kernel
theorem d_E_chip_14 : decode b_E_chip 14 = .ok (.dup, 1) := by decide +kernel
theorem d_E_chip_15 : decode b_E_chip 15 = .ok (.ldc 245, 2) := by decide +kernel
theorem d_E_chip_17 : decode b_E_chip 17 = .ok (.invokespecial 135, 3) := by decide +kernel
theorem d_E_chip_20 : decode b_E_chip 20 = .ok (.athrow, 1) := by decide +kernel
theorem d_E_chip_21 : decode b_E_chip 21 = .ok (.iload_n 1, 1) := by decide +kernel
theorem d_E_chip_22 : decode b_E_chip 22 = .ok (.ifCond .lt 9, 3) := by decide +kernel
theorem d_E_chip_25 : decode b_E_chip 25 = .ok (.iload_n 1, 1) := by decide +kernel
theorem d_E_chip_26 : decode b_E_chip 26 = .ok (.ldc 49, 2) := by decide +kernel
theorem d_E_chip_28 : decode b_E_chip 28 = .ok (.if_icmp .le 13, 3) := by decide +kernel
theorem d_E_chip_31 : decode b_E_chip 31 = .ok (.new 50, 3) := by decide +kernel
theorem d_E_chip_34 : decode b_E_chip 34 = .ok (.dup, 1) := by decide +kernel
theorem d_E_chip_35 : decode b_E_chip 35 = .ok (.ldc 247, 2) := by decide +kernel
theorem d_E_chip_37 : decode b_E_chip 37 = .ok (.invokespecial 54, 3) := by decide +kernel
theorem d_E_chip_40 : decode b_E_chip 40 = .ok (.athrow, 1) := by decide +kernel
theorem d_E_chip_41 : decode b_E_chip 41 = .ok (.iload_n 3, 1) := by decide +kernel
theorem d_E_chip_42 : decode b_E_chip 42 = .ok (.iconst 1, 1) := by decide +kernel
theorem d_E_chip_43 : decode b_E_chip 43 = .ok (.if_icmp .lt 19, 3) := by decide +kernel
theorem d_E_chip_46 : decode b_E_chip 46 = .ok (.iload_n 3, 1) := by decide +kernel
theorem d_E_chip_47 : decode b_E_chip 47 = .ok (.sipush 1000, 3) := by decide +kernel
theorem d_E_chip_50 : decode b_E_chip 50 = .ok (.if_icmp .gt 12, 3) := by decide +kernel
theorem d_E_chip_53 : decode b_E_chip 53 = .ok (.iload_n 2, 1) := by decide +kernel
theorem d_E_chip_54 : decode b_E_chip 54 = .ok (.ifCond .lt 8, 3) := by decide +kernel
theorem d_E_chip_57 : decode b_E_chip 57 = .ok (.iload_n 2, 1) := by decide +kernel
theorem d_E_chip_58 : decode b_E_chip 58 = .ok (.iload_n 3, 1) := by decide +kernel
theorem d_E_chip_59 : decode b_E_chip 59 = .ok (.if_icmp .le 13, 3) := by decide +kernel
theorem d_E_chip_62 : decode b_E_chip 62 = .ok (.new 50, 3) := by decide +kernel
theorem d_E_chip_65 : decode b_E_chip 65 = .ok (.dup, 1) := by decide +kernel
theorem d_E_chip_66 : decode b_E_chip 66 = .ok (.ldc 249, 2) := by decide +kernel
theorem d_E_chip_68 : decode b_E_chip 68 = .ok (.invokespecial 54, 3) := by decide +kernel
theorem d_E_chip_71 : decode b_E_chip 71 = .ok (.athrow, 1) := by decide +kernel
theorem d_E_chip_72 : decode b_E_chip 72 = .ok (.ldc2_w 251, 3) := by decide +kernel
theorem d_E_chip_75 : decode b_E_chip 75 = .ok (.iload_n 1, 1) := by decide +kernel
theorem d_E_chip_76 : decode b_E_chip 76 = .ok (.i2l, 1) := by decide +kernel
theorem d_E_chip_77 : decode b_E_chip 77 = .ok (.lmul, 1) := by decide +kernel
theorem d_E_chip_78 : decode b_E_chip 78 = .ok (.iload_n 1, 1) := by decide +kernel
theorem d_E_chip_79 : decode b_E_chip 79 = .ok (.i2l, 1) := by decide +kernel
theorem d_E_chip_80 : decode b_E_chip 80 = .ok (.lmul, 1) := by decide +kernel
theorem d_E_chip_81 : decode b_E_chip 81 = .ok (.iload_n 2, 1) := by decide +kernel
theorem d_E_chip_82 : decode b_E_chip 82 = .ok (.i2l, 1) := by decide +kernel
theorem d_E_chip_83 : decode b_E_chip 83 = .ok (.lmul, 1) := by decide +kernel
theorem d_E_chip_84 : decode b_E_chip 84 = .ok (.iload_n 3, 1) := by decide +kernel
theorem d_E_chip_85 : decode b_E_chip 85 = .ok (.iload_n 2, 1) := by decide +kernel
theorem d_E_chip_86 : decode b_E_chip 86 = .ok (.isub, 1) := by decide +kernel
theorem d_E_chip_87 : decode b_E_chip 87 = .ok (.i2l, 1) := by decide +kernel
theorem d_E_chip_88 : decode b_E_chip 88 = .ok (.lmul, 1) := by decide +kernel
theorem d_E_chip_89 : decode b_E_chip 89 = .ok (.lstore 5, 2) := by decide +kernel
theorem d_E_chip_91 : decode b_E_chip 91 = .ok (.lload 5, 2) := by decide +kernel
theorem d_E_chip_93 : decode b_E_chip 93 = .ok (.iload_n 3, 1) := by decide +kernel
theorem d_E_chip_94 : decode b_E_chip 94 = .ok (.invokestatic 253, 3) := by decide +kernel
theorem d_E_chip_97 : decode b_E_chip 97 = .ok (.istore 7, 2) := by decide +kernel
theorem d_E_chip_99 : decode b_E_chip 99 = .ok (.iload 7, 2) := by decide +kernel
theorem d_E_chip_101 : decode b_E_chip 101 = .ok (.i2l, 1) := by decide +kernel
theorem d_E_chip_102 : decode b_E_chip 102 = .ok (.iload_n 3, 1) := by decide +kernel
theorem d_E_chip_103 : decode b_E_chip 103 = .ok (.i2l, 1) := by decide +kernel
theorem d_E_chip_104 : decode b_E_chip 104 = .ok (.lmul, 1) := by decide +kernel
theorem d_E_chip_105 : decode b_E_chip 105 = .ok (.lstore 8, 2) := by decide +kernel
theorem d_E_chip_107 : decode b_E_chip 107 = .ok (.iload 4, 2) := by decide +kernel
theorem d_E_chip_109 : decode b_E_chip 109 = .ok (.iconst 1, 1) := by decide +kernel
theorem d_E_chip_110 : decode b_E_chip 110 = .ok (.if_icmp .ne 21, 3) := by decide +kernel
theorem d_E_chip_113 : decode b_E_chip 113 = .ok (.lload 8, 2) := by decide +kernel
theorem d_E_chip_115 : decode b_E_chip 115 = .ok (.lload 8, 2) := by decide +kernel
theorem d_E_chip_117 : decode b_E_chip 117 = .ok (.lmul, 1) := by decide +kernel
theorem d_E_chip_118 : decode b_E_chip 118 = .ok (.lload 5, 2) := by decide +kernel
theorem d_E_chip_120 : decode b_E_chip 120 = .ok (.lcmp, 1) := by decide +kernel
theorem d_E_chip_121 : decode b_E_chip 121 = .ok (.ifCond .ge 10, 3) := by decide +kernel
theorem d_E_chip_124 : decode b_E_chip 124 = .ok (.iload 7, 2) := by decide +kernel
theorem d_E_chip_126 : decode b_E_chip 126 = .ok (.iconst 1, 1) := by decide +kernel
theorem d_E_chip_127 : decode b_E_chip 127 = .ok (.iadd, 1) := by decide +kernel
theorem d_E_chip_128 : decode b_E_chip 128 = .ok (.goto 5, 3) := by decide +kernel
theorem d_E_chip_131 : decode b_E_chip 131 = .ok (.iload 7, 2) := by decide +kernel
theorem d_E_chip_133 : decode b_E_chip 133 = .ok (.ireturn, 1) := by decide +kernel
theorem d_E_toolAt_0 : decode b_E_toolAt 0 = .ok (.iload_n 1, 1) := by decide +kernel
theorem d_E_toolAt_1 : decode b_E_toolAt 1 = .ok (.ifCond .lt 21, 3) := by decide +kernel
theorem d_E_toolAt_4 : decode b_E_toolAt 4 = .ok (.iload_n 1, 1) := by decide +kernel
theorem d_E_toolAt_5 : decode b_E_toolAt 5 = .ok (.aload_n 0, 1) := by decide +kernel
theorem d_E_toolAt_6 : decode b_E_toolAt 6 = .ok (.getfield 28, 3) := by decide +kernel
theorem d_E_toolAt_9 : decode b_E_toolAt 9 = .ok (.arraylength, 1) := by decide +kernel
theorem d_E_toolAt_10 : decode b_E_toolAt 10 = .ok (.if_icmp .ge 12, 3) := by decide +kernel
theorem d_E_toolAt_13 : decode b_E_toolAt 13 = .ok (.aload_n 0, 1) := by decide +kernel
theorem d_E_toolAt_14 : decode b_E_toolAt 14 = .ok (.getfield 28, 3) := by decide +kernel
theorem d_E_toolAt_17 : decode b_E_toolAt 17 = .ok (.iload_n 1, 1) := by decide +kernel
theorem d_E_toolAt_18 : decode b_E_toolAt 18 = .ok (.aaload, 1) := by decide +kernel
theorem d_E_toolAt_19 : decode b_E_toolAt 19 = .ok (.goto 4, 3) := by decide +kernel
theorem d_E_toolAt_22 : decode b_E_toolAt 22 = .ok (.aconst_null, 1) := by decide +kernel
theorem d_E_toolAt_23 : decode b_E_toolAt 23 = .ok (.astore_n 2, 1) := by decide +kernel
theorem d_E_toolAt_24 : decode b_E_toolAt 24 = .ok (.aload_n 2, 1) := by decide +kernel
theorem d_E_toolAt_25 : decode b_E_toolAt 25 = .ok (.ifnonnull 14, 3) := by decide +kernel
theorem d_E_toolAt_28 : decode b_E_toolAt 28 = .ok (.new 131, 3) := by decide +kernel
theorem d_E_toolAt_31 : decode b_E_toolAt 31 = .ok (.dup, 1) := by decide +kernel
theorem d_E_toolAt_32 : decode b_E_toolAt 32 = .ok (.ldc_w 257, 3) := by decide +kernel
theorem d_E_toolAt_35 : decode b_E_toolAt 35 = .ok (.invokespecial 135, 3) := by decide +kernel
theorem d_E_toolAt_38 : decode b_E_toolAt 38 = .ok (.athrow, 1) := by decide +kernel
theorem d_E_toolAt_39 : decode b_E_toolAt 39 = .ok (.aload_n 2, 1) := by decide +kernel
theorem d_E_toolAt_40 : decode b_E_toolAt 40 = .ok (.areturn, 1) := by decide +kernel
theorem d_E_sortAt_0 : decode b_E_sortAt 0 = .ok (.iload_n 1, 1) := by decide +kernel
theorem d_E_sortAt_1 : decode b_E_sortAt 1 = .ok (.ifCond .lt 21, 3) := by decide +kernel
theorem d_E_sortAt_4 : decode b_E_sortAt 4 = .ok (.iload_n 1, 1) := by decide +kernel
theorem d_E_sortAt_5 : decode b_E_sortAt 5 = .ok (.aload_n 0, 1) := by decide +kernel
theorem d_E_sortAt_6 : decode b_E_sortAt 6 = .ok (.getfield 19, 3) := by decide +kernel
theorem d_E_sortAt_9 : decode b_E_sortAt 9 = .ok (.arraylength, 1) := by decide +kernel
theorem d_E_sortAt_10 : decode b_E_sortAt 10 = .ok (.if_icmp .ge 12, 3) := by decide +kernel
theorem d_E_sortAt_13 : decode b_E_sortAt 13 = .ok (.aload_n 0, 1) := by decide +kernel
theorem d_E_sortAt_14 : decode b_E_sortAt 14 = .ok (.getfield 19, 3) := by decide +kernel
theorem d_E_sortAt_17 : decode b_E_sortAt 17 = .ok (.iload_n 1, 1) := by decide +kernel
theorem d_E_sortAt_18 : decode b_E_sortAt 18 = .ok (.aaload, 1) := by decide +kernel
theorem d_E_sortAt_19 : decode b_E_sortAt 19 = .ok (.goto 4, 3) := by decide +kernel
theorem d_E_sortAt_22 : decode b_E_sortAt 22 = .ok (.aconst_null, 1) := by decide +kernel
theorem d_E_sortAt_23 : decode b_E_sortAt 23 = .ok (.astore_n 2, 1) := by decide +kernel
theorem d_E_sortAt_24 : decode b_E_sortAt 24 = .ok (.aload_n 2, 1) := by decide +kernel
theorem d_E_sortAt_25 : decode b_E_sortAt 25 = .ok (.ifnonnull 14, 3) := by decide +kernel
theorem d_E_sortAt_28 : decode b_E_sortAt 28 = .ok (.new 131, 3) := by decide +kernel
theorem d_E_sortAt_31 : decode b_E_sortAt 31 = .ok (.dup, 1) := by decide +kernel
theorem d_E_sortAt_32 : decode b_E_sortAt 32 = .ok (.ldc_w 259, 3) := by decide +kernel
theorem d_E_sortAt_35 : decode b_E_sortAt 35 = .ok (.invokespecial 135, 3) := by decide +kernel
theorem d_E_sortAt_38 : decode b_E_sortAt 38 = .ok (.athrow, 1) := by decide +kernel
theorem d_E_sortAt_39 : decode b_E_sortAt 39 = .ok (.aload_n 2, 1) := by decide +kernel
theorem d_E_sortAt_40 : decode b_E_sortAt 40 = .ok (.areturn, 1) := by decide +kernel
theorem d_E_rateIndex_0 : decode b_E_rateIndex 0 = .ok (.iload_n 0, 1) := by decide +kernel
theorem d_E_rateIndex_1 : decode b_E_rateIndex 1 = .ok (.ifCond .lt 17, 3) := by decide +kernel
theorem d_E_rateIndex_4 : decode b_E_rateIndex 4 = .ok (.iload_n 0, 1) := by decide +kernel
theorem d_E_rateIndex_5 : decode b_E_rateIndex 5 = .ok (.iconst 4, 1) := by decide +kernel
theorem d_E_rateIndex_6 : decode b_E_rateIndex 6 = .ok (.if_icmp .ge 12, 3) := by decide +kernel
theorem d_E_rateIndex_9 : decode b_E_rateIndex 9 = .ok (.iload_n 1, 1) := by decide +kernel
theorem d_E_rateIndex_10 : decode b_E_rateIndex 10 = .ok (.ifCond .lt 8, 3) := by decide +kernel
theorem d_E_rateIndex_13 : decode b_E_rateIndex 13 = .ok (.iload_n 1, 1) := by decide +kernel
theorem d_E_rateIndex_14 : decode b_E_rateIndex 14 = .ok (.iconst 4, 1) := by decide +kernel
theorem d_E_rateIndex_15 : decode b_E_rateIndex 15 = .ok (.if_icmp .lt 14, 3) := by decide +kernel
theorem d_E_rateIndex_18 : decode b_E_rateIndex 18 = .ok (.new 131, 3) := by decide +kernel
theorem d_E_rateIndex_21 : decode b_E_rateIndex 21 = .ok (.dup, 1) := by decide +kernel
theorem d_E_rateIndex_22 : decode b_E_rateIndex 22 = .ok (.ldc_w 261, 3) := by decide +kernel
theorem d_E_rateIndex_25 : decode b_E_rateIndex 25 = .ok (.invokespecial 135, 3) := by decide +kernel
theorem d_E_rateIndex_28 : decode b_E_rateIndex 28 = .ok (.athrow, 1) := by decide +kernel
theorem d_E_rateIndex_29 : decode b_E_rateIndex 29 = .ok (.iload_n 0, 1) := by decide +kernel
theorem d_E_rateIndex_30 : decode b_E_rateIndex 30 = .ok (.iconst 4, 1) := by decide +kernel
theorem d_E_rateIndex_31 : decode b_E_rateIndex 31 = .ok (.imul, 1) := by decide +kernel
theorem d_E_rateIndex_32 : decode b_E_rateIndex 32 = .ok (.iload_n 1, 1) := by decide +kernel
theorem d_E_rateIndex_33 : decode b_E_rateIndex 33 = .ok (.iadd, 1) := by decide +kernel
theorem d_E_rateIndex_34 : decode b_E_rateIndex 34 = .ok (.ireturn, 1) := by decide +kernel
theorem d_E_nextSpare_0 : decode b_E_nextSpare 0 = .ok (.iconst (-1), 1) := by decide +kernel
theorem d_E_nextSpare_1 : decode b_E_nextSpare 1 = .ok (.istore_n 2, 1) := by decide +kernel
theorem d_E_nextSpare_2 : decode b_E_nextSpare 2 = .ok (.ldc_w 263, 3) := by decide +kernel
theorem d_E_nextSpare_5 : decode b_E_nextSpare 5 = .ok (.istore_n 3, 1) := by decide +kernel
theorem d_E_nextSpare_6 : decode b_E_nextSpare 6 = .ok (.iconst 0, 1) := by decide +kernel
theorem d_E_nextSpare_7 : decode b_E_nextSpare 7 = .ok (.istore 4, 2) := by decide +kernel
theorem d_E_nextSpare_9 : decode b_E_nextSpare 9 = .ok (.iload 4, 2) := by decide +kernel
theorem d_E_nextSpare_11 : decode b_E_nextSpare 11 = .ok (.aload_n 0, 1) := by decide +kernel
theorem d_E_nextSpare_12 : decode b_E_nextSpare 12 = .ok (.getfield 28, 3) := by decide +kernel
theorem d_E_nextSpare_15 : decode b_E_nextSpare 15 = .ok (.arraylength, 1) := by decide +kernel
theorem d_E_nextSpare_16 : decode b_E_nextSpare 16 = .ok (.if_icmp .ge 50, 3) := by decide +kernel
theorem d_E_nextSpare_19 : decode b_E_nextSpare 19 = .ok (.aload_n 0, 1) := by decide +kernel
theorem d_E_nextSpare_20 : decode b_E_nextSpare 20 = .ok (.getfield 28, 3) := by decide +kernel
theorem d_E_nextSpare_23 : decode b_E_nextSpare 23 = .ok (.iload 4, 2) := by decide +kernel
theorem d_E_nextSpare_25 : decode b_E_nextSpare 25 = .ok (.aaload, 1) := by decide +kernel
theorem d_E_nextSpare_26 : decode b_E_nextSpare 26 = .ok (.astore 5, 2) := by decide +kernel
theorem d_E_nextSpare_28 : decode b_E_nextSpare 28 = .ok (.aload 5, 2) := by decide +kernel
theorem d_E_nextSpare_30 : decode b_E_nextSpare 30 = .ok (.ifnull 30, 3) := by decide +kernel
theorem d_E_nextSpare_33 : decode b_E_nextSpare 33 = .ok (.aload 5, 2) := by decide +kernel
theorem d_E_nextSpare_35 : decode b_E_nextSpare 35 = .ok (.iload_n 1, 1) := by decide +kernel
theorem d_E_nextSpare_36 : decode b_E_nextSpare 36 = .ok (.invokevirtual 136, 3) := by decide +kernel
theorem d_E_nextSpare_39 : decode b_E_nextSpare 39 = .ok (.ifCond .eq 21, 3) := by decide +kernel
theorem d_E_nextSpare_42 : decode b_E_nextSpare 42 = .ok (.aload 5, 2) := by decide +kernel
theorem d_E_nextSpare_44 : decode b_E_nextSpare 44 = .ok (.getfield 111, 3) := by decide +kernel
theorem d_E_nextSpare_47 : decode b_E_nextSpare 47 = .ok (.iload_n 3, 1) := by decide +kernel
theorem d_E_nextSpare_48 : decode b_E_nextSpare 48 = .ok (.if_icmp .ge 12, 3) := by decide +kernel
theorem d_E_nextSpare_51 : decode b_E_nextSpare 51 = .ok (.iload 4, 2) := by decide +kernel
theorem d_E_nextSpare_53 : decode b_E_nextSpare 53 = .ok (.istore_n 2, 1) := by decide +kernel
theorem d_E_nextSpare_54 : decode b_E_nextSpare 54 = .ok (.aload 5, 2) := by decide +kernel
theorem d_E_nextSpare_56 : decode b_E_nextSpare 56 = .ok (.getfield 111, 3) := by decide +kernel
theorem d_E_nextSpare_59 : decode b_E_nextSpare 59 = .ok (.istore_n 3, 1) := by decide +kernel
theorem d_E_nextSpare_60 : decode b_E_nextSpare 60 = .ok (.iinc 4 1, 3) := by decide +kernel
theorem d_E_nextSpare_63 : decode b_E_nextSpare 63 = .ok (.goto (-54), 3) := by decide +kernel
theorem d_E_nextSpare_66 : decode b_E_nextSpare 66 = .ok (.iload_n 2, 1) := by decide +kernel
theorem d_E_nextSpare_67 : decode b_E_nextSpare 67 = .ok (.ireturn, 1) := by decide +kernel
theorem d_E_mixed_0 : decode b_E_mixed 0 = .ok (.aload_n 0, 1) := by decide +kernel
theorem d_E_mixed_1 : decode b_E_mixed 1 = .ok (.getfield 7, 3) := by decide +kernel
theorem d_E_mixed_4 : decode b_E_mixed 4 = .ok (.i2l, 1) := by decide +kernel
theorem d_E_mixed_5 : decode b_E_mixed 5 = .ok (.ldc2_w 251, 3) := by decide +kernel
theorem d_E_mixed_8 : decode b_E_mixed 8 = .ok (.iload_n 2, 1) := by decide +kernel
theorem d_E_mixed_9 : decode b_E_mixed 9 = .ok (.i2l, 1) := by decide +kernel
theorem d_E_mixed_10 : decode b_E_mixed 10 = .ok (.lmul, 1) := by decide +kernel
theorem d_E_mixed_11 : decode b_E_mixed 11 = .ok (.iload_n 1, 1) := by decide +kernel
theorem d_E_mixed_12 : decode b_E_mixed 12 = .ok (.i2l, 1) := by decide +kernel
theorem d_E_mixed_13 : decode b_E_mixed 13 = .ok (.ladd, 1) := by decide +kernel
theorem d_E_mixed_14 : decode b_E_mixed 14 = .ok (.lconst 1, 1) := by decide +kernel
theorem d_E_mixed_15 : decode b_E_mixed 15 = .ok (.ladd, 1) := by decide +kernel
theorem d_E_mixed_16 : decode b_E_mixed 16 = .ok (.ldc2_w 264, 3) := by decide +kernel
theorem d_E_mixed_19 : decode b_E_mixed 19 = .ok (.lmul, 1) := by decide +kernel
theorem d_E_mixed_20 : decode b_E_mixed 20 = .ok (.ladd, 1) := by decide +kernel
theorem d_E_mixed_21 : decode b_E_mixed 21 = .ok (.lstore_n 3, 1) := by decide +kernel
theorem d_E_mixed_22 : decode b_E_mixed 22 = .ok (.lload_n 3, 1) := by decide +kernel
theorem d_E_mixed_23 : decode b_E_mixed 23 = .ok (.lload_n 3, 1) := by decide +kernel
theorem d_E_mixed_24 : decode b_E_mixed 24 = .ok (.bipush 30, 2) := by decide +kernel
theorem d_E_mixed_26 : decode b_E_mixed 26 = .ok (.lushr, 1) := by decide +kernel
theorem d_E_mixed_27 : decode b_E_mixed 27 = .ok (.lxor, 1) := by decide +kernel
theorem d_E_mixed_28 : decode b_E_mixed 28 = .ok (.ldc2_w 266, 3) := by decide +kernel
theorem d_E_mixed_31 : decode b_E_mixed 31 = .ok (.lmul, 1) := by decide +kernel
theorem d_E_mixed_32 : decode b_E_mixed 32 = .ok (.lstore_n 3, 1) := by decide +kernel
theorem d_E_mixed_33 : decode b_E_mixed 33 = .ok (.lload_n 3, 1) := by decide +kernel
theorem d_E_mixed_34 : decode b_E_mixed 34 = .ok (.lload_n 3, 1) := by decide +kernel
theorem d_E_mixed_35 : decode b_E_mixed 35 = .ok (.bipush 27, 2) := by decide +kernel
theorem d_E_mixed_37 : decode b_E_mixed 37 = .ok (.lushr, 1) := by decide +kernel
theorem d_E_mixed_38 : decode b_E_mixed 38 = .ok (.lxor, 1) := by decide +kernel
theorem d_E_mixed_39 : decode b_E_mixed 39 = .ok (.ldc2_w 268, 3) := by decide +kernel
theorem d_E_mixed_42 : decode b_E_mixed 42 = .ok (.lmul, 1) := by decide +kernel
theorem d_E_mixed_43 : decode b_E_mixed 43 = .ok (.lstore_n 3, 1) := by decide +kernel
theorem d_E_mixed_44 : decode b_E_mixed 44 = .ok (.lload_n 3, 1) := by decide +kernel
theorem d_E_mixed_45 : decode b_E_mixed 45 = .ok (.lload_n 3, 1) := by decide +kernel
theorem d_E_mixed_46 : decode b_E_mixed 46 = .ok (.bipush 31, 2) := by decide +kernel
theorem d_E_mixed_48 : decode b_E_mixed 48 = .ok (.lushr, 1) := by decide +kernel
theorem d_E_mixed_49 : decode b_E_mixed 49 = .ok (.lxor, 1) := by decide +kernel
theorem d_E_mixed_50 : decode b_E_mixed 50 = .ok (.lreturn, 1) := by decide +kernel
theorem d_E_isAnyDue_0 : decode b_E_isAnyDue 0 = .ok (.iconst 0, 1) := by decide +kernel
theorem d_E_isAnyDue_1 : decode b_E_isAnyDue 1 = .ok (.istore_n 3, 1) := by decide +kernel
theorem d_E_isAnyDue_2 : decode b_E_isAnyDue 2 = .ok (.iload_n 3, 1) := by decide +kernel
theorem d_E_isAnyDue_3 : decode b_E_isAnyDue 3 = .ok (.aload_n 0, 1) := by decide +kernel
theorem d_E_isAnyDue_4 : decode b_E_isAnyDue 4 = .ok (.getfield 34, 3) := by decide +kernel
theorem d_E_isAnyDue_7 : decode b_E_isAnyDue 7 = .ok (.arraylength, 1) := by decide +kernel
theorem d_E_isAnyDue_8 : decode b_E_isAnyDue 8 = .ok (.if_icmp .ge 34, 3) := by decide +kernel
theorem d_E_isAnyDue_11 : decode b_E_isAnyDue 11 = .ok (.aload_n 0, 1) := by decide +kernel
theorem d_E_isAnyDue_12 : decode b_E_isAnyDue 12 = .ok (.getfield 34, 3) := by decide +kernel
theorem d_E_isAnyDue_15 : decode b_E_isAnyDue 15 = .ok (.iload_n 3, 1) := by decide +kernel
theorem d_E_isAnyDue_16 : decode b_E_isAnyDue 16 = .ok (.aaload, 1) := by decide +kernel
theorem d_E_isAnyDue_17 : decode b_E_isAnyDue 17 = .ok (.astore 4, 2) := by decide +kernel
theorem d_E_isAnyDue_19 : decode b_E_isAnyDue 19 = .ok (.aload 4, 2) := by decide +kernel
theorem d_E_isAnyDue_21 : decode b_E_isAnyDue 21 = .ok (.ifnull 15, 3) := by decide +kernel
theorem d_E_isAnyDue_24 : decode b_E_isAnyDue 24 = .ok (.aload 4, 2) := by decide +kernel
theorem d_E_isAnyDue_26 : decode b_E_isAnyDue 26 = .ok (.iload_n 1, 1) := by decide +kernel
theorem d_E_isAnyDue_27 : decode b_E_isAnyDue 27 = .ok (.iload_n 2, 1) := by decide +kernel
theorem d_E_isAnyDue_28 : decode b_E_isAnyDue 28 = .ok (.invokevirtual 270, 3) := by decide +kernel
theorem d_E_isAnyDue_31 : decode b_E_isAnyDue 31 = .ok (.ifCond .eq 5, 3) := by decide +kernel
theorem d_E_isAnyDue_34 : decode b_E_isAnyDue 34 = .ok (.iconst 1, 1) := by decide +kernel
theorem d_E_isAnyDue_35 : decode b_E_isAnyDue 35 = .ok (.ireturn, 1) := by decide +kernel
theorem d_E_isAnyDue_36 : decode b_E_isAnyDue 36 = .ok (.iinc 3 1, 3) := by decide +kernel
theorem d_E_isAnyDue_39 : decode b_E_isAnyDue 39 = .ok (.goto (-37), 3) := by decide +kernel
theorem d_E_isAnyDue_42 : decode b_E_isAnyDue 42 = .ok (.iconst 0, 1) := by decide +kernel
theorem d_E_isAnyDue_43 : decode b_E_isAnyDue 43 = .ok (.ireturn, 1) := by decide +kernel
theorem d_E_closeDue_0 : decode b_E_closeDue 0 = .ok (.iconst 0, 1) := by decide +kernel
theorem d_E_closeDue_1 : decode b_E_closeDue 1 = .ok (.istore_n 3, 1) := by decide +kernel
theorem d_E_closeDue_2 : decode b_E_closeDue 2 = .ok (.iconst 0, 1) := by decide +kernel
theorem d_E_closeDue_3 : decode b_E_closeDue 3 = .ok (.istore 4, 2) := by decide +kernel
theorem d_E_closeDue_5 : decode b_E_closeDue 5 = .ok (.iload 4, 2) := by decide +kernel
theorem d_E_closeDue_7 : decode b_E_closeDue 7 = .ok (.aload_n 0, 1) := by decide +kernel
theorem d_E_closeDue_8 : decode b_E_closeDue 8 = .ok (.getfield 34, 3) := by decide +kernel
theorem d_E_closeDue_11 : decode b_E_closeDue 11 = .ok (.arraylength, 1) := by decide +kernel
theorem d_E_closeDue_12 : decode b_E_closeDue 12 = .ok (.if_icmp .ge 42, 3) := by decide +kernel
theorem d_E_closeDue_15 : decode b_E_closeDue 15 = .ok (.aload_n 0, 1) := by decide +kernel
theorem d_E_closeDue_16 : decode b_E_closeDue 16 = .ok (.getfield 34, 3) := by decide +kernel
theorem d_E_closeDue_19 : decode b_E_closeDue 19 = .ok (.iload 4, 2) := by decide +kernel
theorem d_E_closeDue_21 : decode b_E_closeDue 21 = .ok (.aaload, 1) := by decide +kernel
theorem d_E_closeDue_22 : decode b_E_closeDue 22 = .ok (.astore 5, 2) := by decide +kernel
theorem d_E_closeDue_24 : decode b_E_closeDue 24 = .ok (.aload 5, 2) := by decide +kernel
theorem d_E_closeDue_26 : decode b_E_closeDue 26 = .ok (.ifnull 22, 3) := by decide +kernel
theorem d_E_closeDue_29 : decode b_E_closeDue 29 = .ok (.aload 5, 2) := by decide +kernel
theorem d_E_closeDue_31 : decode b_E_closeDue 31 = .ok (.iload_n 1, 1) := by decide +kernel
theorem d_E_closeDue_32 : decode b_E_closeDue 32 = .ok (.iload_n 2, 1) := by decide +kernel
theorem d_E_closeDue_33 : decode b_E_closeDue 33 = .ok (.invokevirtual 270, 3) := by decide +kernel
theorem d_E_closeDue_36 : decode b_E_closeDue 36 = .ok (.ifCond .eq 12, 3) := by decide +kernel
theorem d_E_closeDue_39 : decode b_E_closeDue 39 = .ok (.aload 5, 2) := by decide +kernel
theorem d_E_closeDue_41 : decode b_E_closeDue 41 = .ok (.iconst 1, 1) := by decide +kernel
theorem d_E_closeDue_42 : decode b_E_closeDue 42 = .ok (.putfield 242, 3) := by decide +kernel
theorem d_E_closeDue_45 : decode b_E_closeDue 45 = .ok (.iinc 3 1, 3) := by decide +kernel
theorem d_E_closeDue_48 : decode b_E_closeDue 48 = .ok (.iinc 4 1, 3) := by decide +kernel
theorem d_E_closeDue_51 : decode b_E_closeDue 51 = .ok (.goto (-46), 3) := by decide +kernel
theorem d_E_closeDue_54 : decode b_E_closeDue 54 = .ok (.iload_n 3, 1) := by decide +kernel
theorem d_E_closeDue_55 : decode b_E_closeDue 55 = .ok (.ireturn, 1) := by decide +kernel
theorem d_E_wholeThickness_0 : decode b_E_wholeThickness 0 = .ok (.iconst 0, 1) := by decide +kernel
theorem d_E_wholeThickness_1 : decode b_E_wholeThickness 1 = .ok (.istore_n 3, 1) := by decide +kernel
theorem d_E_wholeThickness_2 : decode b_E_wholeThickness 2 = .ok (.ldc_w 273, 3) := by decide +kernel
theorem d_E_wholeThickness_5 : decode b_E_wholeThickness 5 = .ok (.istore 4, 2) := by decide +kernel
theorem d_E_wholeThickness_7 : decode b_E_wholeThickness 7 = .ok (.iload 4, 2) := by decide +kernel
theorem d_E_wholeThickness_9 : decode b_E_wholeThickness 9 = .ok (.ifCond .le 37, 3) := by decide +kernel
theorem d_E_wholeThickness_12 : decode b_E_wholeThickness 12 = .ok (.iload_n 3, 1) := by decide +kernel
theorem d_E_wholeThickness_13 : decode b_E_wholeThickness 13 = .ok (.iload 4, 2) := by decide +kernel
theorem d_E_wholeThickness_15 : decode b_E_wholeThickness 15 = .ok (.iadd, 1) := by decide +kernel
theorem d_E_wholeThickness_16 : decode b_E_wholeThickness 16 = .ok (.i2l, 1) := by decide +kernel
theorem d_E_wholeThickness_17 : decode b_E_wholeThickness 17 = .ok (.iload_n 2, 1) := by decide +kernel
theorem d_E_wholeThickness_18 : decode b_E_wholeThickness 18 = .ok (.i2l, 1) := by decide +kernel
theorem d_E_wholeThickness_19 : decode b_E_wholeThickness 19 = .ok (.lmul, 1) := by decide +kernel
theorem d_E_wholeThickness_20 : decode b_E_wholeThickness 20 = .ok (.lstore 5, 2) := by decide +kernel
theorem d_E_wholeThickness_22 : decode b_E_wholeThickness 22 = .ok (.lload 5, 2) := by decide +kernel
theorem d_E_wholeThickness_24 : decode b_E_wholeThickness 24 = .ok (.lload 5, 2) := by decide +kernel
theorem d_E_wholeThickness_26 : decode b_E_wholeThickness 26 = .ok (.lmul, 1) := by decide +kernel
theorem d_E_wholeThickness_27 : decode b_E_wholeThickness 27 = .ok (.lload_n 0, 1) := by decide +kernel
theorem d_E_wholeThickness_28 : decode b_E_wholeThickness 28 = .ok (.lcmp, 1) := by decide +kernel
theorem d_E_wholeThickness_29 : decode b_E_wholeThickness 29 = .ok (.ifCond .gt 8, 3) := by decide +kernel
theorem d_E_wholeThickness_32 : decode b_E_wholeThickness 32 = .ok (.iload_n 3, 1) := by decide +kernel
theorem d_E_wholeThickness_33 : decode b_E_wholeThickness 33 = .ok (.iload 4, 2) := by decide +kernel
theorem d_E_wholeThickness_35 : decode b_E_wholeThickness 35 = .ok (.iadd, 1) := by decide +kernel
theorem d_E_wholeThickness_36 : decode b_E_wholeThickness 36 = .ok (.istore_n 3, 1) := by decide +kernel
theorem d_E_wholeThickness_37 : decode b_E_wholeThickness 37 = .ok (.iload 4, 2) := by decide +kernel
theorem d_E_wholeThickness_39 : decode b_E_wholeThickness 39 = .ok (.iconst 2, 1) := by decide +kernel
theorem d_E_wholeThickness_40 : decode b_E_wholeThickness 40 = .ok (.idiv, 1) := by decide +kernel
theorem d_E_wholeThickness_41 : decode b_E_wholeThickness 41 = .ok (.istore 4, 2) := by decide +kernel
theorem d_E_wholeThickness_43 : decode b_E_wholeThickness 43 = .ok (.goto (-36), 3) := by decide +kernel
theorem d_E_wholeThickness_46 : decode b_E_wholeThickness 46 = .ok (.iload_n 3, 1) := by decide +kernel
theorem d_E_wholeThickness_47 : decode b_E_wholeThickness 47 = .ok (.ireturn, 1) := by decide +kernel
theorem d_Or_init_0 : decode b_Or_init 0 = .ok (.aload_n 0, 1) := by decide +kernel
theorem d_Or_init_1 : decode b_Or_init 1 = .ok (.invokespecial 1, 3) := by decide +kernel
theorem d_Or_init_4 : decode b_Or_init 4 = .ok (.aload_n 0, 1) := by decide +kernel
theorem d_Or_init_5 : decode b_Or_init 5 = .ok (.iload_n 1, 1) := by decide +kernel
theorem d_Or_init_6 : decode b_Or_init 6 = .ok (.putfield 7, 3) := by decide +kernel
theorem d_Or_init_9 : decode b_Or_init 9 = .ok (.aload_n 0, 1) := by decide +kernel
theorem d_Or_init_10 : decode b_Or_init 10 = .ok (.iload_n 2, 1) := by decide +kernel
theorem d_Or_init_11 : decode b_Or_init 11 = .ok (.putfield 13, 3) := by decide +kernel
theorem d_Or_init_14 : decode b_Or_init 14 = .ok (.return_, 1) := by decide +kernel
theorem d_Or_isDue_0 : decode b_Or_isDue 0 = .ok (.aload_n 0, 1) := by decide +kernel
theorem d_Or_isDue_1 : decode b_Or_isDue 1 = .ok (.getfield 16, 3) := by decide +kernel
theorem d_Or_isDue_4 : decode b_Or_isDue 4 = .ok (.ifCond .ne 23, 3) := by decide +kernel
theorem d_Or_isDue_7 : decode b_Or_isDue 7 = .ok (.aload_n 0, 1) := by decide +kernel
theorem d_Or_isDue_8 : decode b_Or_isDue 8 = .ok (.getfield 7, 3) := by decide +kernel
theorem d_Or_isDue_11 : decode b_Or_isDue 11 = .ok (.iload_n 1, 1) := by decide +kernel
theorem d_Or_isDue_12 : decode b_Or_isDue 12 = .ok (.if_icmp .ne 15, 3) := by decide +kernel
theorem d_Or_isDue_15 : decode b_Or_isDue 15 = .ok (.aload_n 0, 1) := by decide +kernel
theorem d_Or_isDue_16 : decode b_Or_isDue 16 = .ok (.getfield 13, 3) := by decide +kernel
theorem d_Or_isDue_19 : decode b_Or_isDue 19 = .ok (.iload_n 2, 1) := by decide +kernel
theorem d_Or_isDue_20 : decode b_Or_isDue 20 = .ok (.if_icmp .ge 7, 3) := by decide +kernel
theorem d_Or_isDue_23 : decode b_Or_isDue 23 = .ok (.iconst 1, 1) := by decide +kernel
theorem d_Or_isDue_24 : decode b_Or_isDue 24 = .ok (.goto 4, 3) := by decide +kernel
theorem d_Or_isDue_27 : decode b_Or_isDue 27 = .ok (.iconst 0, 1) := by decide +kernel
theorem d_Or_isDue_28 : decode b_Or_isDue 28 = .ok (.ireturn, 1) := by decide +kernel
theorem d_Rd_init_0 : decode b_Rd_init 0 = .ok (.aload_n 0, 1) := by decide +kernel
theorem d_Rd_init_1 : decode b_Rd_init 1 = .ok (.invokespecial 3, 3) := by decide +kernel
theorem d_Rd_init_4 : decode b_Rd_init 4 = .ok (.aload_n 0, 1) := by decide +kernel
theorem d_Rd_init_5 : decode b_Rd_init 5 = .ok (.bipush 24, 2) := by decide +kernel
theorem d_Rd_init_7 : decode b_Rd_init 7 = .ok (.newarray .int, 2) := by decide +kernel
theorem d_Rd_init_9 : decode b_Rd_init 9 = .ok (.putfield 9, 3) := by decide +kernel
theorem d_Rd_init_12 : decode b_Rd_init 12 = .ok (.aload_n 0, 1) := by decide +kernel
theorem d_Rd_init_13 : decode b_Rd_init 13 = .ok (.iconst (-1), 1) := by decide +kernel
theorem d_Rd_init_14 : decode b_Rd_init 14 = .ok (.putfield 15, 3) := by decide +kernel
theorem d_Rd_init_17 : decode b_Rd_init 17 = .ok (.return_, 1) := by decide +kernel
theorem d_Rd_add_0 : decode b_Rd_add 0 = .ok (.aload_n 0, 1) := by decide +kernel
theorem d_Rd_add_1 : decode b_Rd_add 1 = .ok (.getfield 9, 3) := by decide +kernel
theorem d_Rd_add_4 : decode b_Rd_add 4 = .ok (.iconst 0, 1) := by decide +kernel
theorem d_Rd_add_5 : decode b_Rd_add 5 = .ok (.aload_n 0, 1) := by decide +kernel
theorem d_Rd_add_6 : decode b_Rd_add 6 = .ok (.getfield 9, 3) := by decide +kernel
theorem d_Rd_add_9 : decode b_Rd_add 9 = .ok (.iconst 1, 1) := by decide +kernel
theorem d_Rd_add_10 : decode b_Rd_add 10 = .ok (.bipush 23, 2) := by decide +kernel
theorem d_Rd_add_12 : decode b_Rd_add 12 = .ok (.invokestatic 19, 3) := by decide +kernel
theorem d_Rd_add_15 : decode b_Rd_add 15 = .ok (.aload_n 0, 1) := by decide +kernel
theorem d_Rd_add_16 : decode b_Rd_add 16 = .ok (.getfield 9, 3) := by decide +kernel
theorem d_Rd_add_19 : decode b_Rd_add 19 = .ok (.iconst 0, 1) := by decide +kernel
theorem d_Rd_add_20 : decode b_Rd_add 20 = .ok (.iload_n 2, 1) := by decide +kernel
theorem d_Rd_add_21 : decode b_Rd_add 21 = .ok (.iastore, 1) := by decide +kernel
theorem d_Rd_add_22 : decode b_Rd_add 22 = .ok (.aload_n 0, 1) := by decide +kernel
theorem d_Rd_add_23 : decode b_Rd_add 23 = .ok (.aload_n 0, 1) := by decide +kernel
theorem d_Rd_add_24 : decode b_Rd_add 24 = .ok (.getfield 25, 3) := by decide +kernel
theorem d_Rd_add_27 : decode b_Rd_add 27 = .ok (.iconst 1, 1) := by decide +kernel
theorem d_Rd_add_28 : decode b_Rd_add 28 = .ok (.iadd, 1) := by decide +kernel
theorem d_Rd_add_29 : decode b_Rd_add 29 = .ok (.bipush 24, 2) := by decide +kernel
theorem d_Rd_add_31 : decode b_Rd_add 31 = .ok (.invokestatic 28, 3) := by decide +kernel
theorem d_Rd_add_34 : decode b_Rd_add 34 = .ok (.putfield 25, 3) := by decide +kernel
theorem d_Rd_add_37 : decode b_Rd_add 37 = .ok (.aload_n 0, 1) := by decide +kernel
theorem d_Rd_add_38 : decode b_Rd_add 38 = .ok (.iload_n 1, 1) := by decide +kernel
theorem d_Rd_add_39 : decode b_Rd_add 39 = .ok (.putfield 15, 3) := by decide +kernel
theorem d_Rd_add_42 : decode b_Rd_add 42 = .ok (.return_, 1) := by decide +kernel
theorem d_Rd_isAbove_0 : decode b_Rd_isAbove 0 = .ok (.aload_n 0, 1) := by decide +kernel
theorem d_Rd_isAbove_1 : decode b_Rd_isAbove 1 = .ok (.getfield 9, 3) := by decide +kernel
theorem d_Rd_isAbove_4 : decode b_Rd_isAbove 4 = .ok (.iconst 0, 1) := by decide +kernel
theorem d_Rd_isAbove_5 : decode b_Rd_isAbove 5 = .ok (.iaload, 1) := by decide +kernel
theorem d_Rd_isAbove_6 : decode b_Rd_isAbove 6 = .ok (.iload_n 1, 1) := by decide +kernel
theorem d_Rd_isAbove_7 : decode b_Rd_isAbove 7 = .ok (.if_icmp .le 7, 3) := by decide +kernel
theorem d_Rd_isAbove_10 : decode b_Rd_isAbove 10 = .ok (.iconst 1, 1) := by decide +kernel
theorem d_Rd_isAbove_11 : decode b_Rd_isAbove 11 = .ok (.goto 4, 3) := by decide +kernel
theorem d_Rd_isAbove_14 : decode b_Rd_isAbove 14 = .ok (.iconst 0, 1) := by decide +kernel
theorem d_Rd_isAbove_15 : decode b_Rd_isAbove 15 = .ok (.ireturn, 1) := by decide +kernel
theorem d_Rd_isRising_0 : decode b_Rd_isRising 0 = .ok (.aload_n 0, 1) := by decide +kernel
theorem d_Rd_isRising_1 : decode b_Rd_isRising 1 = .ok (.getfield 25, 3) := by decide +kernel
theorem d_Rd_isRising_4 : decode b_Rd_isRising 4 = .ok (.iload_n 1, 1) := by decide +kernel
theorem d_Rd_isRising_5 : decode b_Rd_isRising 5 = .ok (.if_icmp .ge 5, 3) := by decide +kernel
theorem d_Rd_isRising_8 : decode b_Rd_isRising 8 = .ok (.iconst 0, 1) := by decide +kernel
theorem d_Rd_isRising_9 : decode b_Rd_isRising 9 = .ok (.ireturn, 1) := by decide +kernel
theorem d_Rd_isRising_10 : decode b_Rd_isRising 10 = .ok (.iconst 0, 1) := by decide +kernel
theorem d_Rd_isRising_11 : decode b_Rd_isRising 11 = .ok (.istore_n 2, 1) := by decide +kernel
theorem d_Rd_isRising_12 : decode b_Rd_isRising 12 = .ok (.iload_n 2, 1) := by decide +kernel
theorem d_Rd_isRising_13 : decode b_Rd_isRising 13 = .ok (.iconst 1, 1) := by decide +kernel
theorem d_Rd_isRising_14 : decode b_Rd_isRising 14 = .ok (.iadd, 1) := by decide +kernel
theorem d_Rd_isRising_15 : decode b_Rd_isRising 15 = .ok (.iload_n 1, 1) := by decide +kernel
theorem d_Rd_isRising_16 : decode b_Rd_isRising 16 = .ok (.if_icmp .ge 28, 3) := by decide +kernel
theorem d_Rd_isRising_19 : decode b_Rd_isRising 19 = .ok (.aload_n 0, 1) := by decide +kernel
theorem d_Rd_isRising_20 : decode b_Rd_isRising 20 = .ok (.getfield 9, 3) := by decide +kernel
theorem d_Rd_isRising_23 : decode b_Rd_isRising 23 = .ok (.iload_n 2, 1) := by decide +kernel
theorem d_Rd_isRising_24 : decode b_Rd_isRising 24 = .ok (.iaload, 1) := by decide +kernel
theorem d_Rd_isRising_25 : decode b_Rd_isRising 25 = .ok (.aload_n 0, 1) := by decide +kernel
theorem d_Rd_isRising_26 : decode b_Rd_isRising 26 = .ok (.getfield 9, 3) := by decide +kernel
theorem d_Rd_isRising_29 : decode b_Rd_isRising 29 = .ok (.iload_n 2, 1) := by decide +kernel
theorem d_Rd_isRising_30 : decode b_Rd_isRising 30 = .ok (.iconst 1, 1) := by decide +kernel
theorem d_Rd_isRising_31 : decode b_Rd_isRising 31 = .ok (.iadd, 1) := by decide +kernel
theorem d_Rd_isRising_32 : decode b_Rd_isRising 32 = .ok (.iaload, 1) := by decide +kernel
theorem d_Rd_isRising_33 : decode b_Rd_isRising 33 = .ok (.if_icmp .gt 5, 3) := by decide +kernel
theorem d_Rd_isRising_36 : decode b_Rd_isRising 36 = .ok (.iconst 0, 1) := by decide +kernel
theorem d_Rd_isRising_37 : decode b_Rd_isRising 37 = .ok (.ireturn, 1) := by decide +kernel
theorem d_Rd_isRising_38 : decode b_Rd_isRising 38 = .ok (.iinc 2 1, 3) := by decide +kernel
theorem d_Rd_isRising_41 : decode b_Rd_isRising 41 = .ok (.goto (-29), 3) := by decide +kernel
theorem d_Rd_isRising_44 : decode b_Rd_isRising 44 = .ok (.iconst 1, 1) := by decide +kernel
theorem d_Rd_isRising_45 : decode b_Rd_isRising 45 = .ok (.ireturn, 1) := by decide +kernel
theorem d_Rd_staysAbove_0 : decode b_Rd_staysAbove 0 = .ok (.aload_n 0, 1) := by decide +kernel
theorem d_Rd_staysAbove_1 : decode b_Rd_staysAbove 1 = .ok (.getfield 25, 3) := by decide +kernel
theorem d_Rd_staysAbove_4 : decode b_Rd_staysAbove 4 = .ok (.iload_n 2, 1) := by decide +kernel
theorem d_Rd_staysAbove_5 : decode b_Rd_staysAbove 5 = .ok (.if_icmp .ge 5, 3) := by decide +kernel
theorem d_Rd_staysAbove_8 : decode b_Rd_staysAbove 8 = .ok (.iconst 0, 1) := by decide +kernel
theorem d_Rd_staysAbove_9 : decode b_Rd_staysAbove 9 = .ok (.ireturn, 1) := by decide +kernel
theorem d_Rd_staysAbove_10 : decode b_Rd_staysAbove 10 = .ok (.iconst 0, 1) := by decide +kernel
theorem d_Rd_staysAbove_11 : decode b_Rd_staysAbove 11 = .ok (.istore_n 3, 1) := by decide +kernel
theorem d_Rd_staysAbove_12 : decode b_Rd_staysAbove 12 = .ok (.iload_n 3, 1) := by decide +kernel
theorem d_Rd_staysAbove_13 : decode b_Rd_staysAbove 13 = .ok (.iload_n 2, 1) := by decide +kernel
theorem d_Rd_staysAbove_14 : decode b_Rd_staysAbove 14 = .ok (.if_icmp .ge 21, 3) := by decide +kernel
theorem d_Rd_staysAbove_17 : decode b_Rd_staysAbove 17 = .ok (.aload_n 0, 1) := by decide +kernel
theorem d_Rd_staysAbove_18 : decode b_Rd_staysAbove 18 = .ok (.getfield 9, 3) := by decide +kernel
theorem d_Rd_staysAbove_21 : decode b_Rd_staysAbove 21 = .ok (.iload_n 3, 1) := by decide +kernel
theorem d_Rd_staysAbove_22 : decode b_Rd_staysAbove 22 = .ok (.iaload, 1) := by decide +kernel
theorem d_Rd_staysAbove_23 : decode b_Rd_staysAbove 23 = .ok (.iload_n 1, 1) := by decide +kernel
theorem d_Rd_staysAbove_24 : decode b_Rd_staysAbove 24 = .ok (.if_icmp .gt 5, 3) := by decide +kernel
theorem d_Rd_staysAbove_27 : decode b_Rd_staysAbove 27 = .ok (.iconst 0, 1) := by decide +kernel
theorem d_Rd_staysAbove_28 : decode b_Rd_staysAbove 28 = .ok (.ireturn, 1) := by decide +kernel
theorem d_Rd_staysAbove_29 : decode b_Rd_staysAbove 29 = .ok (.iinc 3 1, 3) := by decide +kernel
theorem d_Rd_staysAbove_32 : decode b_Rd_staysAbove 32 = .ok (.goto (-20), 3) := by decide +kernel
theorem d_Rd_staysAbove_35 : decode b_Rd_staysAbove 35 = .ok (.iconst 1, 1) := by decide +kernel
theorem d_Rd_staysAbove_36 : decode b_Rd_staysAbove 36 = .ok (.ireturn, 1) := by decide +kernel
theorem d_Rd_isJumping_0 : decode b_Rd_isJumping 0 = .ok (.aload_n 0, 1) := by decide +kernel
theorem d_Rd_isJumping_1 : decode b_Rd_isJumping 1 = .ok (.getfield 25, 3) := by decide +kernel
theorem d_Rd_isJumping_4 : decode b_Rd_isJumping 4 = .ok (.iconst 3, 1) := by decide +kernel
theorem d_Rd_isJumping_5 : decode b_Rd_isJumping 5 = .ok (.if_icmp .lt 22, 3) := by decide +kernel
theorem d_Rd_isJumping_8 : decode b_Rd_isJumping 8 = .ok (.aload_n 0, 1) := by decide +kernel
theorem d_Rd_isJumping_9 : decode b_Rd_isJumping 9 = .ok (.iconst 0, 1) := by decide +kernel
theorem d_Rd_isJumping_10 : decode b_Rd_isJumping 10 = .ok (.invokevirtual 34, 3) := by decide +kernel
theorem d_Rd_isJumping_13 : decode b_Rd_isJumping 13 = .ok (.aload_n 0, 1) := by decide +kernel
theorem d_Rd_isJumping_14 : decode b_Rd_isJumping 14 = .ok (.iconst 1, 1) := by decide +kernel
theorem d_Rd_isJumping_15 : decode b_Rd_isJumping 15 = .ok (.invokevirtual 34, 3) := by decide +kernel
theorem d_Rd_isJumping_18 : decode b_Rd_isJumping 18 = .ok (.iadd, 1) := by decide +kernel
theorem d_Rd_isJumping_19 : decode b_Rd_isJumping 19 = .ok (.iload_n 1, 1) := by decide +kernel
theorem d_Rd_isJumping_20 : decode b_Rd_isJumping 20 = .ok (.if_icmp .le 7, 3) := by decide +kernel
theorem d_Rd_isJumping_23 : decode b_Rd_isJumping 23 = .ok (.iconst 1, 1) := by decide +kernel
theorem d_Rd_isJumping_24 : decode b_Rd_isJumping 24 = .ok (.goto 4, 3) := by decide +kernel
theorem d_Rd_isJumping_27 : decode b_Rd_isJumping 27 = .ok (.iconst 0, 1) := by decide +kernel
theorem d_Rd_isJumping_28 : decode b_Rd_isJumping 28 = .ok (.ireturn, 1) := by decide +kernel
theorem d_Rd_step_0 : decode b_Rd_step 0 = .ok (.aload_n 0, 1) := by decide +kernel
theorem d_Rd_step_1 : decode b_Rd_step 1 = .ok (.getfield 9, 3) := by decide +kernel
theorem d_Rd_step_4 : decode b_Rd_step 4 = .ok (.iload_n 1, 1) := by decide +kernel
theorem d_Rd_step_5 : decode b_Rd_step 5 = .ok (.iaload, 1) := by decide +kernel
theorem d_Rd_step_6 : decode b_Rd_step 6 = .ok (.aload_n 0, 1) := by decide +kernel
theorem d_Rd_step_7 : decode b_Rd_step 7 = .ok (.getfield 9, 3) := by decide +kernel
theorem d_Rd_step_10 : decode b_Rd_step 10 = .ok (.iload_n 1, 1) := by decide +kernel
theorem d_Rd_step_11 : decode b_Rd_step 11 = .ok (.iconst 1, 1) := by decide +kernel
theorem d_Rd_step_12 : decode b_Rd_step 12 = .ok (.iadd, 1) := by decide +kernel
theorem d_Rd_step_13 : decode b_Rd_step 13 = .ok (.iaload, 1) := by decide +kernel
theorem d_Rd_step_14 : decode b_Rd_step 14 = .ok (.isub, 1) := by decide +kernel
theorem d_Rd_step_15 : decode b_Rd_step 15 = .ok (.invokestatic 38, 3) := by decide +kernel
theorem d_Rd_step_18 : decode b_Rd_step 18 = .ok (.ireturn, 1) := by decide +kernel
theorem d_Ru_init_0 : decode b_Ru_init 0 = .ok (.aload_n 0, 1) := by decide +kernel
theorem d_Ru_init_1 : decode b_Ru_init 1 = .ok (.invokespecial 3, 3) := by decide +kernel
theorem d_Ru_init_4 : decode b_Ru_init 4 = .ok (.aload_n 0, 1) := by decide +kernel
theorem d_Ru_init_5 : decode b_Ru_init 5 = .ok (.sipush 1000, 3) := by decide +kernel
theorem d_Ru_init_8 : decode b_Ru_init 8 = .ok (.putfield 9, 3) := by decide +kernel
theorem d_Ru_init_11 : decode b_Ru_init 11 = .ok (.aload_n 0, 1) := by decide +kernel
theorem d_Ru_init_12 : decode b_Ru_init 12 = .ok (.iconst 4, 1) := by decide +kernel
theorem d_Ru_init_13 : decode b_Ru_init 13 = .ok (.putfield 15, 3) := by decide +kernel
theorem d_Ru_init_16 : decode b_Ru_init 16 = .ok (.aload_n 0, 1) := by decide +kernel
theorem d_Ru_init_17 : decode b_Ru_init 17 = .ok (.sipush 500, 3) := by decide +kernel
theorem d_Ru_init_20 : decode b_Ru_init 20 = .ok (.putfield 18, 3) := by decide +kernel
theorem d_Ru_init_23 : decode b_Ru_init 23 = .ok (.aload_n 0, 1) := by decide +kernel
theorem d_Ru_init_24 : decode b_Ru_init 24 = .ok (.sipush 600, 3) := by decide +kernel
theorem d_Ru_init_27 : decode b_Ru_init 27 = .ok (.putfield 21, 3) := by decide +kernel
theorem d_Ru_init_30 : decode b_Ru_init 30 = .ok (.return_, 1) := by decide +kernel
theorem d_Ru_firstThatTells_0 : decode b_Ru_firstThatTells 0 = .ok (.aload_n 1, 1) := by decide +kernel
theorem d_Ru_firstThatTells_1 : decode b_Ru_firstThatTells 1 = .ok (.aload_n 0, 1) := by decide +kernel
theorem d_Ru_firstThatTells_2 : decode b_Ru_firstThatTells 2 = .ok (.getfield 9, 3) := by decide +kernel
theorem d_Ru_firstThatTells_5 : decode b_Ru_firstThatTells 5 = .ok (.invokevirtual 24, 3) := by decide +kernel
theorem d_Ru_firstThatTells_8 : decode b_Ru_firstThatTells 8 = .ok (.ifCond .eq 5, 3) := by decide +kernel
theorem d_Ru_firstThatTells_11 : decode b_Ru_firstThatTells 11 = .ok (.iconst 0, 1) := by decide +kernel
theorem d_Ru_firstThatTells_12 : decode b_Ru_firstThatTells 12 = .ok (.ireturn, 1) := by decide +kernel
theorem d_Ru_firstThatTells_13 : decode b_Ru_firstThatTells 13 = .ok (.aload_n 1, 1) := by decide +kernel
theorem d_Ru_firstThatTells_14 : decode b_Ru_firstThatTells 14 = .ok (.aload_n 0, 1) := by decide +kernel
theorem d_Ru_firstThatTells_15 : decode b_Ru_firstThatTells 15 = .ok (.getfield 15, 3) := by decide +kernel
theorem d_Ru_firstThatTells_18 : decode b_Ru_firstThatTells 18 = .ok (.invokevirtual 30, 3) := by decide +kernel
theorem d_Ru_firstThatTells_21 : decode b_Ru_firstThatTells 21 = .ok (.ifCond .eq 5, 3) := by decide +kernel
theorem d_Ru_firstThatTells_24 : decode b_Ru_firstThatTells 24 = .ok (.iconst 1, 1) := by decide +kernel
theorem d_Ru_firstThatTells_25 : decode b_Ru_firstThatTells 25 = .ok (.ireturn, 1) := by decide +kernel
theorem d_Ru_firstThatTells_26 : decode b_Ru_firstThatTells 26 = .ok (.aload_n 1, 1) := by decide +kernel
theorem d_Ru_firstThatTells_27 : decode b_Ru_firstThatTells 27 = .ok (.aload_n 0, 1) := by decide +kernel
theorem d_Ru_firstThatTells_28 : decode b_Ru_firstThatTells 28 = .ok (.getfield 18, 3) := by decide +kernel
theorem d_Ru_firstThatTells_31 : decode b_Ru_firstThatTells 31 = .ok (.aload_n 0, 1) := by decide +kernel
theorem d_Ru_firstThatTells_32 : decode b_Ru_firstThatTells 32 = .ok (.getfield 15, 3) := by decide +kernel
theorem d_Ru_firstThatTells_35 : decode b_Ru_firstThatTells 35 = .ok (.invokevirtual 33, 3) := by decide +kernel
theorem d_Ru_firstThatTells_38 : decode b_Ru_firstThatTells 38 = .ok (.ifCond .eq 5, 3) := by decide +kernel
theorem d_Ru_firstThatTells_41 : decode b_Ru_firstThatTells 41 = .ok (.iconst 2, 1) := by decide +kernel
theorem d_Ru_firstThatTells_42 : decode b_Ru_firstThatTells 42 = .ok (.ireturn, 1) := by decide +kernel
theorem d_Ru_firstThatTells_43 : decode b_Ru_firstThatTells 43 = .ok (.aload_n 1, 1) := by decide +kernel
theorem d_Ru_firstThatTells_44 : decode b_Ru_firstThatTells 44 = .ok (.aload_n 0, 1) := by decide +kernel
theorem d_Ru_firstThatTells_45 : decode b_Ru_firstThatTells 45 = .ok (.getfield 21, 3) := by decide +kernel
theorem d_Ru_firstThatTells_48 : decode b_Ru_firstThatTells 48 = .ok (.invokevirtual 37, 3) := by decide +kernel
theorem d_Ru_firstThatTells_51 : decode b_Ru_firstThatTells 51 = .ok (.ifCond .eq 7, 3) := by decide +kernel
theorem d_Ru_firstThatTells_54 : decode b_Ru_firstThatTells 54 = .ok (.iconst 3, 1) := by decide +kernel
theorem d_Ru_firstThatTells_55 : decode b_Ru_firstThatTells 55 = .ok (.goto 4, 3) := by decide +kernel
theorem d_Ru_firstThatTells_58 : decode b_Ru_firstThatTells 58 = .ok (.iconst (-1), 1) := by decide +kernel
theorem d_Ru_firstThatTells_59 : decode b_Ru_firstThatTells 59 = .ok (.ireturn, 1) := by decide +kernel
theorem d_So_init_0 : decode b_So_init 0 = .ok (.aload_n 0, 1) := by decide +kernel
theorem d_So_init_1 : decode b_So_init 1 = .ok (.invokespecial 3, 3) := by decide +kernel
theorem d_So_init_4 : decode b_So_init 4 = .ok (.aload_n 0, 1) := by decide +kernel
theorem d_So_init_5 : decode b_So_init 5 = .ok (.iload_n 1, 1) := by decide +kernel
theorem d_So_init_6 : decode b_So_init 6 = .ok (.putfield 9, 3) := by decide +kernel
theorem d_So_init_9 : decode b_So_init 9 = .ok (.aload_n 0, 1) := by decide +kernel
theorem d_So_init_10 : decode b_So_init 10 = .ok (.bipush 40, 2) := by decide +kernel
theorem d_So_init_12 : decode b_So_init 12 = .ok (.newarray .int, 2) := by decide +kernel
theorem d_So_init_14 : decode b_So_init 14 = .ok (.putfield 15, 3) := by decide +kernel
theorem d_So_init_17 : decode b_So_init 17 = .ok (.aload_n 0, 1) := by decide +kernel
theorem d_So_init_18 : decode b_So_init 18 = .ok (.ldc2_w 19, 3) := by decide +kernel
theorem d_So_init_21 : decode b_So_init 21 = .ok (.putfield 21, 3) := by decide +kernel
theorem d_So_init_24 : decode b_So_init 24 = .ok (.aload_n 0, 1) := by decide +kernel
theorem d_So_init_25 : decode b_So_init 25 = .ok (.iconst 1, 1) := by decide +kernel
theorem d_So_init_26 : decode b_So_init 26 = .ok (.putfield 25, 3) := by decide +kernel
theorem d_So_init_29 : decode b_So_init 29 = .ok (.aload_n 0, 1) := by decide +kernel
theorem d_So_init_30 : decode b_So_init 30 = .ok (.iconst 1, 1) := by decide +kernel
theorem d_So_init_31 : decode b_So_init 31 = .ok (.putfield 28, 3) := by decide +kernel
theorem d_So_init_34 : decode b_So_init 34 = .ok (.return_, 1) := by decide +kernel
theorem d_So_greatestLife_0 : decode b_So_greatestLife 0 = .ok (.iconst 0, 1) := by decide +kernel
theorem d_So_greatestLife_1 : decode b_So_greatestLife 1 = .ok (.istore_n 1, 1) := by decide +kernel
theorem d_So_greatestLife_2 : decode b_So_greatestLife 2 = .ok (.iconst 0, 1) := by decide +kernel
theorem d_So_greatestLife_3 : decode b_So_greatestLife 3 = .ok (.istore_n 2, 1) := by decide +kernel
theorem d_So_greatestLife_4 : decode b_So_greatestLife 4 = .ok (.iload_n 2, 1) := by decide +kernel
theorem d_So_greatestLife_5 : decode b_So_greatestLife 5 = .ok (.aload_n 0, 1) := by decide +kernel
theorem d_So_greatestLife_6 : decode b_So_greatestLife 6 = .ok (.getfield 31, 3) := by decide +kernel
theorem d_So_greatestLife_9 : decode b_So_greatestLife 9 = .ok (.if_icmp .ge 20, 3) := by decide +kernel
theorem d_So_greatestLife_12 : decode b_So_greatestLife 12 = .ok (.iload_n 1, 1) := by decide +kernel
theorem d_So_greatestLife_13 : decode b_So_greatestLife 13 = .ok (.aload_n 0, 1) := by decide +kernel
theorem d_So_greatestLife_14 : decode b_So_greatestLife 14 = .ok (.getfield 15, 3) := by decide +kernel
theorem d_So_greatestLife_17 : decode b_So_greatestLife 17 = .ok (.iload_n 2, 1) := by decide +kernel
theorem d_So_greatestLife_18 : decode b_So_greatestLife 18 = .ok (.iaload, 1) := by decide +kernel
theorem d_So_greatestLife_19 : decode b_So_greatestLife 19 = .ok (.invokestatic 34, 3) := by decide +kernel
theorem d_So_greatestLife_22 : decode b_So_greatestLife 22 = .ok (.istore_n 1, 1) := by decide +kernel
theorem d_So_greatestLife_23 : decode b_So_greatestLife 23 = .ok (.iinc 2 1, 3) := by decide +kernel
theorem d_So_greatestLife_26 : decode b_So_greatestLife 26 = .ok (.goto (-22), 3) := by decide +kernel
theorem d_So_greatestLife_29 : decode b_So_greatestLife 29 = .ok (.iload_n 1, 1) := by decide +kernel
theorem d_So_greatestLife_30 : decode b_So_greatestLife 30 = .ok (.ireturn, 1) := by decide +kernel
theorem d_So_costAt_0 : decode b_So_costAt 0 = .ok (.lconst 0, 1) := by decide +kernel
theorem d_So_costAt_1 : decode b_So_costAt 1 = .ok (.lstore_n 2, 1) := by decide +kernel
theorem d_So_costAt_2 : decode b_So_costAt 2 = .ok (.iconst 0, 1) := by decide +kernel
theorem d_So_costAt_3 : decode b_So_costAt 3 = .ok (.istore 4, 2) := by decide +kernel
theorem d_So_costAt_5 : decode b_So_costAt 5 = .ok (.iload 4, 2) := by decide +kernel
theorem d_So_costAt_7 : decode b_So_costAt 7 = .ok (.aload_n 0, 1) := by decide +kernel
theorem d_So_costAt_8 : decode b_So_costAt 8 = .ok (.getfield 31, 3) := by decide +kernel
theorem d_So_costAt_11 : decode b_So_costAt 11 = .ok (.if_icmp .ge 36, 3) := by decide +kernel
theorem d_So_costAt_14 : decode b_So_costAt 14 = .ok (.lload_n 2, 1) := by decide +kernel
theorem d_So_costAt_15 : decode b_So_costAt 15 = .ok (.aload_n 0, 1) := by decide +kernel
theorem d_So_costAt_16 : decode b_So_costAt 16 = .ok (.getfield 15, 3) := by decide +kernel
theorem d_So_costAt_19 : decode b_So_costAt 19 = .ok (.iload 4, 2) := by decide +kernel
theorem d_So_costAt_21 : decode b_So_costAt 21 = .ok (.iaload, 1) := by decide +kernel
theorem d_So_costAt_22 : decode b_So_costAt 22 = .ok (.iload_n 1, 1) := by decide +kernel
theorem d_So_costAt_23 : decode b_So_costAt 23 = .ok (.if_icmp .ge 11, 3) := by decide +kernel
theorem d_So_costAt_26 : decode b_So_costAt 26 = .ok (.aload_n 0, 1) := by decide +kernel
theorem d_So_costAt_27 : decode b_So_costAt 27 = .ok (.getfield 28, 3) := by decide +kernel
theorem d_So_costAt_30 : decode b_So_costAt 30 = .ok (.i2l, 1) := by decide +kernel
theorem d_So_costAt_31 : decode b_So_costAt 31 = .ok (.goto 8, 3) := by decide +kernel
theorem d_So_costAt_34 : decode b_So_costAt 34 = .ok (.aload_n 0, 1) := by decide +kernel
theorem d_So_costAt_35 : decode b_So_costAt 35 = .ok (.getfield 25, 3) := by decide +kernel
theorem d_So_costAt_38 : decode b_So_costAt 38 = .ok (.i2l, 1) := by decide +kernel
theorem d_So_costAt_39 : decode b_So_costAt 39 = .ok (.ladd, 1) := by decide +kernel
theorem d_So_costAt_40 : decode b_So_costAt 40 = .ok (.lstore_n 2, 1) := by decide +kernel
theorem d_So_costAt_41 : decode b_So_costAt 41 = .ok (.iinc 4 1, 3) := by decide +kernel
theorem d_So_costAt_44 : decode b_So_costAt 44 = .ok (.goto (-39), 3) := by decide +kernel
theorem d_So_costAt_47 : decode b_So_costAt 47 = .ok (.lload_n 2, 1) := by decide +kernel
theorem d_So_costAt_48 : decode b_So_costAt 48 = .ok (.lreturn, 1) := by decide +kernel
theorem d_So_usesAt_0 : decode b_So_usesAt 0 = .ok (.lconst 0, 1) := by decide +kernel
theorem d_So_usesAt_1 : decode b_So_usesAt 1 = .ok (.lstore_n 2, 1) := by decide +kernel
theorem d_So_usesAt_2 : decode b_So_usesAt 2 = .ok (.iconst 0, 1) := by decide +kernel
theorem d_So_usesAt_3 : decode b_So_usesAt 3 = .ok (.istore 4, 2) := by decide +kernel
theorem d_So_usesAt_5 : decode b_So_usesAt 5 = .ok (.iload 4, 2) := by decide +kernel
theorem d_So_usesAt_7 : decode b_So_usesAt 7 = .ok (.aload_n 0, 1) := by decide +kernel
theorem d_So_usesAt_8 : decode b_So_usesAt 8 = .ok (.getfield 31, 3) := by decide +kernel
theorem d_So_usesAt_11 : decode b_So_usesAt 11 = .ok (.if_icmp .ge 24, 3) := by decide +kernel
theorem d_So_usesAt_14 : decode b_So_usesAt 14 = .ok (.lload_n 2, 1) := by decide +kernel
theorem d_So_usesAt_15 : decode b_So_usesAt 15 = .ok (.aload_n 0, 1) := by decide +kernel
theorem d_So_usesAt_16 : decode b_So_usesAt 16 = .ok (.getfield 15, 3) := by decide +kernel
theorem d_So_usesAt_19 : decode b_So_usesAt 19 = .ok (.iload 4, 2) := by decide +kernel
theorem d_So_usesAt_21 : decode b_So_usesAt 21 = .ok (.iaload, 1) := by decide +kernel
theorem d_So_usesAt_22 : decode b_So_usesAt 22 = .ok (.iload_n 1, 1) := by decide +kernel
theorem d_So_usesAt_23 : decode b_So_usesAt 23 = .ok (.invokestatic 40, 3) := by decide +kernel
theorem d_So_usesAt_26 : decode b_So_usesAt 26 = .ok (.i2l, 1) := by decide +kernel
theorem d_So_usesAt_27 : decode b_So_usesAt 27 = .ok (.ladd, 1) := by decide +kernel
theorem d_So_usesAt_28 : decode b_So_usesAt 28 = .ok (.lstore_n 2, 1) := by decide +kernel
theorem d_So_usesAt_29 : decode b_So_usesAt 29 = .ok (.iinc 4 1, 3) := by decide +kernel
theorem d_So_usesAt_32 : decode b_So_usesAt 32 = .ok (.goto (-27), 3) := by decide +kernel
theorem d_So_usesAt_35 : decode b_So_usesAt 35 = .ok (.lload_n 2, 1) := by decide +kernel
theorem d_So_usesAt_36 : decode b_So_usesAt 36 = .ok (.lreturn, 1) := by decide +kernel
theorem d_So_bestUses_0 : decode b_So_bestUses 0 = .ok (.aload_n 0, 1) := by decide +kernel
theorem d_So_bestUses_1 : decode b_So_bestUses 1 = .ok (.getfield 15, 3) := by decide +kernel
theorem d_So_bestUses_4 : decode b_So_bestUses 4 = .ok (.iconst 0, 1) := by decide +kernel
theorem d_So_bestUses_5 : decode b_So_bestUses 5 = .ok (.iaload, 1) := by decide +kernel
theorem d_So_bestUses_6 : decode b_So_bestUses 6 = .ok (.istore_n 1, 1) := by decide +kernel
theorem d_So_bestUses_7 : decode b_So_bestUses 7 = .ok (.iconst 1, 1) := by decide +kernel
theorem d_So_bestUses_8 : decode b_So_bestUses 8 = .ok (.istore_n 2, 1) := by decide +kernel
theorem d_So_bestUses_9 : decode b_So_bestUses 9 = .ok (.iload_n 2, 1) := by decide +kernel
theorem d_So_bestUses_10 : decode b_So_bestUses 10 = .ok (.aload_n 0, 1) := by decide +kernel
theorem d_So_bestUses_11 : decode b_So_bestUses 11 = .ok (.getfield 31, 3) := by decide +kernel
theorem d_So_bestUses_14 : decode b_So_bestUses 14 = .ok (.if_icmp .ge 30, 3) := by decide +kernel
theorem d_So_bestUses_17 : decode b_So_bestUses 17 = .ok (.aload_n 0, 1) := by decide +kernel
theorem d_So_bestUses_18 : decode b_So_bestUses 18 = .ok (.aload_n 0, 1) := by decide +kernel
theorem d_So_bestUses_19 : decode b_So_bestUses 19 = .ok (.getfield 15, 3) := by decide +kernel
theorem d_So_bestUses_22 : decode b_So_bestUses 22 = .ok (.iload_n 2, 1) := by decide +kernel
theorem d_So_bestUses_23 : decode b_So_bestUses 23 = .ok (.iaload, 1) := by decide +kernel
theorem d_So_bestUses_24 : decode b_So_bestUses 24 = .ok (.iload_n 1, 1) := by decide +kernel
theorem d_So_bestUses_25 : decode b_So_bestUses 25 = .ok (.invokevirtual 43, 3) := by decide +kernel
theorem d_So_bestUses_28 : decode b_So_bestUses 28 = .ok (.ifCond .eq 10, 3) := by decide +kernel
theorem d_So_bestUses_31 : decode b_So_bestUses 31 = .ok (.aload_n 0, 1) := by decide +kernel
theorem d_So_bestUses_32 : decode b_So_bestUses 32 = .ok (.getfield 15, 3) := by decide +kernel
theorem d_So_bestUses_35 : decode b_So_bestUses 35 = .ok (.iload_n 2, 1) := by decide +kernel
theorem d_So_bestUses_36 : decode b_So_bestUses 36 = .ok (.iaload, 1) := by decide +kernel
theorem d_So_bestUses_37 : decode b_So_bestUses 37 = .ok (.istore_n 1, 1) := by decide +kernel
theorem d_So_bestUses_38 : decode b_So_bestUses 38 = .ok (.iinc 2 1, 3) := by decide +kernel
theorem d_So_bestUses_41 : decode b_So_bestUses 41 = .ok (.goto (-32), 3) := by decide +kernel
theorem d_So_bestUses_44 : decode b_So_bestUses 44 = .ok (.iload_n 1, 1) := by decide +kernel
theorem d_So_bestUses_45 : decode b_So_bestUses 45 = .ok (.ireturn, 1) := by decide +kernel
theorem d_So_isBetter_0 : decode b_So_isBetter 0 = .ok (.aload_n 0, 1) := by decide +kernel
theorem d_So_isBetter_1 : decode b_So_isBetter 1 = .ok (.iload_n 1, 1) := by decide +kernel
theorem d_So_isBetter_2 : decode b_So_isBetter 2 = .ok (.invokevirtual 47, 3) := by decide +kernel
theorem d_So_isBetter_5 : decode b_So_isBetter 5 = .ok (.aload_n 0, 1) := by decide +kernel
theorem d_So_isBetter_6 : decode b_So_isBetter 6 = .ok (.iload_n 2, 1) := by decide +kernel
theorem d_So_isBetter_7 : decode b_So_isBetter 7 = .ok (.invokevirtual 51, 3) := by decide +kernel
theorem d_So_isBetter_10 : decode b_So_isBetter 10 = .ok (.lmul, 1) := by decide +kernel
theorem d_So_isBetter_11 : decode b_So_isBetter 11 = .ok (.lstore_n 3, 1) := by decide +kernel
theorem d_So_isBetter_12 : decode b_So_isBetter 12 = .ok (.aload_n 0, 1) := by decide +kernel
theorem d_So_isBetter_13 : decode b_So_isBetter 13 = .ok (.iload_n 2, 1) := by decide +kernel
theorem d_So_isBetter_14 : decode b_So_isBetter 14 = .ok (.invokevirtual 47, 3) := by decide +kernel
theorem d_So_isBetter_17 : decode b_So_isBetter 17 = .ok (.aload_n 0, 1) := by decide +kernel
theorem d_So_isBetter_18 : decode b_So_isBetter 18 = .ok (.iload_n 1, 1) := by decide +kernel
theorem d_So_isBetter_19 : decode b_So_isBetter 19 = .ok (.invokevirtual 51, 3) := by decide +kernel
theorem d_So_isBetter_22 : decode b_So_isBetter 22 = .ok (.lmul, 1) := by decide +kernel
theorem d_So_isBetter_23 : decode b_So_isBetter 23 = .ok (.lstore 5, 2) := by decide +kernel
theorem d_So_isBetter_25 : decode b_So_isBetter 25 = .ok (.lload_n 3, 1) := by decide +kernel
theorem d_So_isBetter_26 : decode b_So_isBetter 26 = .ok (.lload 5, 2) := by decide +kernel
theorem d_So_isBetter_28 : decode b_So_isBetter 28 = .ok (.lcmp, 1) := by decide +kernel
theorem d_So_isBetter_29 : decode b_So_isBetter 29 = .ok (.ifCond .lt 15, 3) := by decide +kernel
theorem d_So_isBetter_32 : decode b_So_isBetter 32 = .ok (.lload_n 3, 1) := by decide +kernel
theorem d_So_isBetter_33 : decode b_So_isBetter 33 = .ok (.lload 5, 2) := by decide +kernel
theorem d_So_isBetter_35 : decode b_So_isBetter 35 = .ok (.lcmp, 1) := by decide +kernel
theorem d_So_isBetter_36 : decode b_So_isBetter 36 = .ok (.ifCond .ne 12, 3) := by decide +kernel
theorem d_So_isBetter_39 : decode b_So_isBetter 39 = .ok (.iload_n 1, 1) := by decide +kernel
theorem d_So_isBetter_40 : decode b_So_isBetter 40 = .ok (.iload_n 2, 1) := by decide +kernel
theorem d_So_isBetter_41 : decode b_So_isBetter 41 = .ok (.if_icmp .le 7, 3) := by decide +kernel
theorem d_So_isBetter_44 : decode b_So_isBetter 44 = .ok (.iconst 1, 1) := by decide +kernel
theorem d_So_isBetter_45 : decode b_So_isBetter 45 = .ok (.goto 4, 3) := by decide +kernel
theorem d_So_isBetter_48 : decode b_So_isBetter 48 = .ok (.iconst 0, 1) := by decide +kernel
theorem d_So_isBetter_49 : decode b_So_isBetter 49 = .ok (.ireturn, 1) := by decide +kernel
theorem d_To_init_0 : decode b_To_init 0 = .ok (.aload_n 0, 1) := by decide +kernel
theorem d_To_init_1 : decode b_To_init 1 = .ok (.invokespecial 3, 3) := by decide +kernel
theorem d_To_init_4 : decode b_To_init 4 = .ok (.aload_n 0, 1) := by decide +kernel
theorem d_To_init_5 : decode b_To_init 5 = .ok (.aload_n 1, 1) := by decide +kernel
theorem d_To_init_6 : decode b_To_init 6 = .ok (.putfield 9, 3) := by decide +kernel
theorem d_To_init_9 : decode b_To_init 9 = .ok (.aload_n 0, 1) := by decide +kernel
theorem d_To_init_10 : decode b_To_init 10 = .ok (.iload_n 2, 1) := by decide +kernel
theorem d_To_init_11 : decode b_To_init 11 = .ok (.putfield 15, 3) := by decide +kernel
theorem d_To_init_14 : decode b_To_init 14 = .ok (.aload_n 0, 1) := by decide +kernel
theorem d_To_init_15 : decode b_To_init 15 = .ok (.iload_n 3, 1) := by decide +kernel
theorem d_To_init_16 : decode b_To_init 16 = .ok (.putfield 19, 3) := by decide +kernel
theorem d_To_init_19 : decode b_To_init 19 = .ok (.aload_n 0, 1) := by decide +kernel
theorem d_To_init_20 : decode b_To_init 20 = .ok (.new 22, 3) := by decide +kernel
theorem d_To_init_23 : decode b_To_init 23 = .ok (.dup, 1) := by decide +kernel
theorem d_To_init_24 : decode b_To_init 24 = .ok (.invokespecial 24, 3) := by decide +kernel
theorem d_To_init_27 : decode b_To_init 27 = .ok (.putfield 25, 3) := by decide +kernel
theorem d_To_init_30 : decode b_To_init 30 = .ok (.return_, 1) := by decide +kernel
theorem d_To_wearBy_0 : decode b_To_wearBy 0 = .ok (.aload_n 0, 1) := by decide +kernel
theorem d_To_wearBy_1 : decode b_To_wearBy 1 = .ok (.aload_n 0, 1) := by decide +kernel
theorem d_To_wearBy_2 : decode b_To_wearBy 2 = .ok (.getfield 29, 3) := by decide +kernel
theorem d_To_wearBy_5 : decode b_To_wearBy 5 = .ok (.lload_n 1, 1) := by decide +kernel
theorem d_To_wearBy_6 : decode b_To_wearBy 6 = .ok (.ladd, 1) := by decide +kernel
theorem d_To_wearBy_7 : decode b_To_wearBy 7 = .ok (.ldc2_w 33, 3) := by decide +kernel
theorem d_To_wearBy_10 : decode b_To_wearBy 10 = .ok (.invokestatic 35, 3) := by decide +kernel
theorem d_To_wearBy_13 : decode b_To_wearBy 13 = .ok (.putfield 29, 3) := by decide +kernel
theorem d_To_wearBy_16 : decode b_To_wearBy 16 = .ok (.aload_n 0, 1) := by decide +kernel
theorem d_To_wearBy_17 : decode b_To_wearBy 17 = .ok (.dup, 1) := by decide +kernel
theorem d_To_wearBy_18 : decode b_To_wearBy 18 = .ok (.getfield 41, 3) := by decide +kernel
theorem d_To_wearBy_21 : decode b_To_wearBy 21 = .ok (.lconst 1, 1) := by decide +kernel
theorem d_To_wearBy_22 : decode b_To_wearBy 22 = .ok (.ladd, 1) := by decide +kernel
theorem d_To_wearBy_23 : decode b_To_wearBy 23 = .ok (.putfield 41, 3) := by decide +kernel
theorem d_To_wearBy_26 : decode b_To_wearBy 26 = .ok (.return_, 1) := by decide +kernel
theorem d_To_grindOrBar_0 : decode b_To_grindOrBar 0 = .ok (.aload_n 0, 1) := by decide +kernel
theorem d_To_grindOrBar_1 : decode b_To_grindOrBar 1 = .ok (.getfield 15, 3) := by decide +kernel
theorem d_To_grindOrBar_4 : decode b_To_grindOrBar 4 = .ok (.iload_n 1, 1) := by decide +kernel
theorem d_To_grindOrBar_5 : decode b_To_grindOrBar 5 = .ok (.isub, 1) := by decide +kernel
theorem d_To_grindOrBar_6 : decode b_To_grindOrBar 6 = .ok (.aload_n 0, 1) := by decide +kernel
theorem d_To_grindOrBar_7 : decode b_To_grindOrBar 7 = .ok (.getfield 19, 3) := by decide +kernel
theorem d_To_grindOrBar_10 : decode b_To_grindOrBar 10 = .ok (.if_icmp .ge 10, 3) := by decide +kernel
theorem d_To_grindOrBar_13 : decode b_To_grindOrBar 13 = .ok (.aload_n 0, 1) := by decide +kernel
theorem d_To_grindOrBar_14 : decode b_To_grindOrBar 14 = .ok (.iconst 1, 1) := by decide +kernel
theorem d_To_grindOrBar_15 : decode b_To_grindOrBar 15 = .ok (.putfield 44, 3) := by decide +kernel
theorem d_To_grindOrBar_18 : decode b_To_grindOrBar 18 = .ok (.iconst 0, 1) := by decide +kernel
theorem d_To_grindOrBar_19 : decode b_To_grindOrBar 19 = .ok (.ireturn, 1) := by decide +kernel
theorem d_To_grindOrBar_20 : decode b_To_grindOrBar 20 = .ok (.aload_n 0, 1) := by decide +kernel
theorem d_To_grindOrBar_21 : decode b_To_grindOrBar 21 = .ok (.dup, 1) := by decide +kernel
theorem d_To_grindOrBar_22 : decode b_To_grindOrBar 22 = .ok (.getfield 15, 3) := by decide +kernel
theorem d_To_grindOrBar_25 : decode b_To_grindOrBar 25 = .ok (.iload_n 1, 1) := by decide +kernel
theorem d_To_grindOrBar_26 : decode b_To_grindOrBar 26 = .ok (.isub, 1) := by decide +kernel
theorem d_To_grindOrBar_27 : decode b_To_grindOrBar 27 = .ok (.putfield 15, 3) := by decide +kernel
theorem d_To_grindOrBar_30 : decode b_To_grindOrBar 30 = .ok (.aload_n 0, 1) := by decide +kernel
theorem d_To_grindOrBar_31 : decode b_To_grindOrBar 31 = .ok (.lconst 0, 1) := by decide +kernel
theorem d_To_grindOrBar_32 : decode b_To_grindOrBar 32 = .ok (.putfield 29, 3) := by decide +kernel
theorem d_To_grindOrBar_35 : decode b_To_grindOrBar 35 = .ok (.aload_n 0, 1) := by decide +kernel
theorem d_To_grindOrBar_36 : decode b_To_grindOrBar 36 = .ok (.dup, 1) := by decide +kernel
theorem d_To_grindOrBar_37 : decode b_To_grindOrBar 37 = .ok (.getfield 48, 3) := by decide +kernel
theorem d_To_grindOrBar_40 : decode b_To_grindOrBar 40 = .ok (.lconst 1, 1) := by decide +kernel
theorem d_To_grindOrBar_41 : decode b_To_grindOrBar 41 = .ok (.ladd, 1) := by decide +kernel
theorem d_To_grindOrBar_42 : decode b_To_grindOrBar 42 = .ok (.putfield 48, 3) := by decide +kernel
theorem d_To_grindOrBar_45 : decode b_To_grindOrBar 45 = .ok (.iconst 1, 1) := by decide +kernel
theorem d_To_grindOrBar_46 : decode b_To_grindOrBar 46 = .ok (.ireturn, 1) := by decide +kernel
theorem d_To_isBlunt_0 : decode b_To_isBlunt 0 = .ok (.aload_n 0, 1) := by decide +kernel
theorem d_To_isBlunt_1 : decode b_To_isBlunt 1 = .ok (.getfield 29, 3) := by decide +kernel
theorem d_To_isBlunt_4 : decode b_To_isBlunt 4 = .ok (.aload_n 0, 1) := by decide +kernel
theorem d_To_isBlunt_5 : decode b_To_isBlunt 5 = .ok (.getfield 9, 3) := by decide +kernel
theorem d_To_isBlunt_8 : decode b_To_isBlunt 8 = .ok (.getfield 51, 3) := by decide +kernel
theorem d_To_isBlunt_11 : decode b_To_isBlunt 11 = .ok (.lcmp, 1) := by decide +kernel
theorem d_To_isBlunt_12 : decode b_To_isBlunt 12 = .ok (.ifCond .le 7, 3) := by decide +kernel
theorem d_To_isBlunt_15 : decode b_To_isBlunt 15 = .ok (.iconst 1, 1) := by decide +kernel
theorem d_To_isBlunt_16 : decode b_To_isBlunt 16 = .ok (.goto 4, 3) := by decide +kernel
theorem d_To_isBlunt_19 : decode b_To_isBlunt 19 = .ok (.iconst 0, 1) := by decide +kernel
theorem d_To_isBlunt_20 : decode b_To_isBlunt 20 = .ok (.ireturn, 1) := by decide +kernel
theorem d_To_isSpareOf_0 : decode b_To_isSpareOf 0 = .ok (.aload_n 0, 1) := by decide +kernel
theorem d_To_isSpareOf_1 : decode b_To_isSpareOf 1 = .ok (.getfield 9, 3) := by decide +kernel
theorem d_To_isSpareOf_4 : decode b_To_isSpareOf 4 = .ok (.getfield 56, 3) := by decide +kernel
theorem d_To_isSpareOf_7 : decode b_To_isSpareOf 7 = .ok (.iload_n 1, 1) := by decide +kernel
theorem d_To_isSpareOf_8 : decode b_To_isSpareOf 8 = .ok (.if_icmp .ne 30, 3) := by decide +kernel
theorem d_To_isSpareOf_11 : decode b_To_isSpareOf 11 = .ok (.aload_n 0, 1) := by decide +kernel
theorem d_To_isSpareOf_12 : decode b_To_isSpareOf 12 = .ok (.getfield 44, 3) := by decide +kernel
theorem d_To_isSpareOf_15 : decode b_To_isSpareOf 15 = .ok (.ifCond .ne 23, 3) := by decide +kernel
theorem d_To_isSpareOf_18 : decode b_To_isSpareOf 18 = .ok (.aload_n 0, 1) := by decide +kernel
theorem d_To_isSpareOf_19 : decode b_To_isSpareOf 19 = .ok (.getfield 59, 3) := by decide +kernel
theorem d_To_isSpareOf_22 : decode b_To_isSpareOf 22 = .ok (.ifCond .ne 16, 3) := by decide +kernel
theorem d_To_isSpareOf_25 : decode b_To_isSpareOf 25 = .ok (.aload_n 0, 1) := by decide +kernel
theorem d_To_isSpareOf_26 : decode b_To_isSpareOf 26 = .ok (.getfield 29, 3) := by decide +kernel
theorem d_To_isSpareOf_29 : decode b_To_isSpareOf 29 = .ok (.lconst 0, 1) := by decide +kernel
theorem d_To_isSpareOf_30 : decode b_To_isSpareOf 30 = .ok (.lcmp, 1) := by decide +kernel
theorem d_To_isSpareOf_31 : decode b_To_isSpareOf 31 = .ok (.ifCond .ne 7, 3) := by decide +kernel
theorem d_To_isSpareOf_34 : decode b_To_isSpareOf 34 = .ok (.iconst 1, 1) := by decide +kernel
theorem d_To_isSpareOf_35 : decode b_To_isSpareOf 35 = .ok (.goto 4, 3) := by decide +kernel
theorem d_To_isSpareOf_38 : decode b_To_isSpareOf 38 = .ok (.iconst 0, 1) := by decide +kernel
theorem d_To_isSpareOf_39 : decode b_To_isSpareOf 39 = .ok (.ireturn, 1) := by decide +kernel
theorem d_To_marks_0 : decode b_To_marks 0 = .ok (.aload_n 0, 1) := by decide +kernel
theorem d_To_marks_1 : decode b_To_marks 1 = .ok (.getfield 44, 3) := by decide +kernel
theorem d_To_marks_4 : decode b_To_marks 4 = .ok (.ifCond .eq 7, 3) := by decide +kernel
theorem d_To_marks_7 : decode b_To_marks 7 = .ok (.iconst 1, 1) := by decide +kernel
theorem d_To_marks_8 : decode b_To_marks 8 = .ok (.goto 4, 3) := by decide +kernel
theorem d_To_marks_11 : decode b_To_marks 11 = .ok (.iconst 0, 1) := by decide +kernel
theorem d_To_marks_12 : decode b_To_marks 12 = .ok (.aload_n 0, 1) := by decide +kernel
theorem d_To_marks_13 : decode b_To_marks 13 = .ok (.invokevirtual 62, 3) := by decide +kernel
theorem d_To_marks_16 : decode b_To_marks 16 = .ok (.ifCond .eq 7, 3) := by decide +kernel
theorem d_To_marks_19 : decode b_To_marks 19 = .ok (.iconst 2, 1) := by decide +kernel
theorem d_To_marks_20 : decode b_To_marks 20 = .ok (.goto 4, 3) := by decide +kernel
theorem d_To_marks_23 : decode b_To_marks 23 = .ok (.iconst 0, 1) := by decide +kernel
theorem d_To_marks_24 : decode b_To_marks 24 = .ok (.iadd, 1) := by decide +kernel
theorem d_To_marks_25 : decode b_To_marks 25 = .ok (.aload_n 0, 1) := by decide +kernel
theorem d_To_marks_26 : decode b_To_marks 26 = .ok (.getfield 59, 3) := by decide +kernel
theorem d_To_marks_29 : decode b_To_marks 29 = .ok (.ifCond .eq 7, 3) := by decide +kernel
theorem d_To_marks_32 : decode b_To_marks 32 = .ok (.iconst 4, 1) := by decide +kernel
theorem d_To_marks_33 : decode b_To_marks 33 = .ok (.goto 4, 3) := by decide +kernel
theorem d_To_marks_36 : decode b_To_marks 36 = .ok (.iconst 0, 1) := by decide +kernel
theorem d_To_marks_37 : decode b_To_marks 37 = .ok (.iadd, 1) := by decide +kernel
theorem d_To_marks_38 : decode b_To_marks 38 = .ok (.ireturn, 1) := by decide +kernel
end
section
theorem d_M_init_0 : decode b_M_init 0 = .ok (.aload_n 0, 1) := by decide +kernel
theorem d_M_init_1 : decode b_M_init 1 = .ok (.invokespecial 1, 3) := by decide +kernel
theorem d_M_init_4 : decode b_M_init 4 = .ok (.aload_n 0, 1) := by decide +kernel
theorem d_M_init_5 : decode b_M_init 5 = .ok (.bipush 12, 2) := by decide +kernel
theorem d_M_init_7 : decode b_M_init 7 = .ok (.newarray .int, 2) := by decide +kernel
theorem d_M_init_9 : decode b_M_init 9 = .ok (.putfield 7, 3) := by decide +kernel
theorem d_M_init_12 : decode b_M_init 12 = .ok (.aload_n 0, 1) := by decide +kernel
theorem d_M_init_13 : decode b_M_init 13 = .ok (.bipush 12, 2) := by decide +kernel
theorem d_M_init_15 : decode b_M_init 15 = .ok (.newarray .int, 2) := by decide +kernel
theorem d_M_init_17 : decode b_M_init 17 = .ok (.putfield 13, 3) := by decide +kernel
theorem d_M_init_20 : decode b_M_init 20 = .ok (.aload_n 0, 1) := by decide +kernel
theorem d_M_init_21 : decode b_M_init 21 = .ok (.bipush 12, 2) := by decide +kernel
theorem d_M_init_23 : decode b_M_init 23 = .ok (.newarray .int, 2) := by decide +kernel
theorem d_M_init_25 : decode b_M_init 25 = .ok (.putfield 16, 3) := by decide +kernel
theorem d_M_init_28 : decode b_M_init 28 = .ok (.aload_n 0, 1) := by decide +kernel
theorem d_M_init_29 : decode b_M_init 29 = .ok (.bipush 12, 2) := by decide +kernel
theorem d_M_init_31 : decode b_M_init 31 = .ok (.newarray .long, 2) := by decide +kernel
theorem d_M_init_33 : decode b_M_init 33 = .ok (.putfield 19, 3) := by decide +kernel
theorem d_M_init_36 : decode b_M_init 36 = .ok (.aload_n 0, 1) := by decide +kernel
theorem d_M_init_37 : decode b_M_init 37 = .ok (.bipush 12, 2) := by decide +kernel
theorem d_M_init_39 : decode b_M_init 39 = .ok (.newarray .boolean, 2) := by decide +kernel
theorem d_M_init_41 : decode b_M_init 41 = .ok (.putfield 23, 3) := by decide +kernel
theorem d_M_init_44 : decode b_M_init 44 = .ok (.aload_n 0, 1) := by decide +kernel
theorem d_M_init_45 : decode b_M_init 45 = .ok (.bipush 12, 2) := by decide +kernel
theorem d_M_init_47 : decode b_M_init 47 = .ok (.newarray .boolean, 2) := by decide +kernel
theorem d_M_init_49 : decode b_M_init 49 = .ok (.putfield 27, 3) := by decide +kernel
theorem d_M_init_52 : decode b_M_init 52 = .ok (.aload_n 0, 1) := by decide +kernel
theorem d_M_init_53 : decode b_M_init 53 = .ok (.bipush 12, 2) := by decide +kernel
theorem d_M_init_55 : decode b_M_init 55 = .ok (.newarray .int, 2) := by decide +kernel
theorem d_M_init_57 : decode b_M_init 57 = .ok (.putfield 30, 3) := by decide +kernel
theorem d_M_init_60 : decode b_M_init 60 = .ok (.aload_n 0, 1) := by decide +kernel
theorem d_M_init_61 : decode b_M_init 61 = .ok (.bipush 12, 2) := by decide +kernel
theorem d_M_init_63 : decode b_M_init 63 = .ok (.newarray .int, 2) := by decide +kernel
theorem d_M_init_65 : decode b_M_init 65 = .ok (.putfield 33, 3) := by decide +kernel
theorem d_M_init_68 : decode b_M_init 68 = .ok (.aload_n 0, 1) := by decide +kernel
theorem d_M_init_69 : decode b_M_init 69 = .ok (.bipush 16, 2) := by decide +kernel
theorem d_M_init_71 : decode b_M_init 71 = .ok (.newarray .long, 2) := by decide +kernel
theorem d_M_init_73 : decode b_M_init 73 = .ok (.dup, 1) := by decide +kernel
theorem d_M_init_74 : decode b_M_init 74 = .ok (.iconst 0, 1) := by decide +kernel
theorem d_M_init_75 : decode b_M_init 75 = .ok (.lconst 1, 1) := by decide +kernel
theorem d_M_init_76 : decode b_M_init 76 = .ok (.lastore, 1) := by decide +kernel
theorem d_M_init_77 : decode b_M_init 77 = .ok (.dup, 1) := by decide +kernel
theorem d_M_init_78 : decode b_M_init 78 = .ok (.iconst 1, 1) := by decide +kernel
theorem d_M_init_79 : decode b_M_init 79 = .ok (.lconst 1, 1) := by decide +kernel
theorem d_M_init_80 : decode b_M_init 80 = .ok (.lastore, 1) := by decide +kernel
theorem d_M_init_81 : decode b_M_init 81 = .ok (.dup, 1) := by decide +kernel
theorem d_M_init_82 : decode b_M_init 82 = .ok (.iconst 2, 1) := by decide +kernel
theorem d_M_init_83 : decode b_M_init 83 = .ok (.lconst 1, 1) := by decide +kernel
theorem d_M_init_84 : decode b_M_init 84 = .ok (.lastore, 1) := by decide +kernel
theorem d_M_init_85 : decode b_M_init 85 = .ok (.dup, 1) := by decide +kernel
theorem d_M_init_86 : decode b_M_init 86 = .ok (.iconst 3, 1) := by decide +kernel
theorem d_M_init_87 : decode b_M_init 87 = .ok (.lconst 1, 1) := by decide +kernel
theorem d_M_init_88 : decode b_M_init 88 = .ok (.lastore, 1) := by decide +kernel
theorem d_M_init_89 : decode b_M_init 89 = .ok (.dup, 1) := by decide +kernel
theorem d_M_init_90 : decode b_M_init 90 = .ok (.iconst 4, 1) := by decide +kernel
theorem d_M_init_91 : decode b_M_init 91 = .ok (.lconst 1, 1) := by decide +kernel
theorem d_M_init_92 : decode b_M_init 92 = .ok (.lastore, 1) := by decide +kernel
theorem d_M_init_93 : decode b_M_init 93 = .ok (.dup, 1) := by decide +kernel
theorem d_M_init_94 : decode b_M_init 94 = .ok (.iconst 5, 1) := by decide +kernel
theorem d_M_init_95 : decode b_M_init 95 = .ok (.lconst 1, 1) := by decide +kernel
theorem d_M_init_96 : decode b_M_init 96 = .ok (.lastore, 1) := by decide +kernel
theorem d_M_init_97 : decode b_M_init 97 = .ok (.dup, 1) := by decide +kernel
theorem d_M_init_98 : decode b_M_init 98 = .ok (.bipush 6, 2) := by decide +kernel
theorem d_M_init_100 : decode b_M_init 100 = .ok (.lconst 1, 1) := by decide +kernel
theorem d_M_init_101 : decode b_M_init 101 = .ok (.lastore, 1) := by decide +kernel
theorem d_M_init_102 : decode b_M_init 102 = .ok (.dup, 1) := by decide +kernel
theorem d_M_init_103 : decode b_M_init 103 = .ok (.bipush 7, 2) := by decide +kernel
theorem d_M_init_105 : decode b_M_init 105 = .ok (.lconst 1, 1) := by decide +kernel
theorem d_M_init_106 : decode b_M_init 106 = .ok (.lastore, 1) := by decide +kernel
theorem d_M_init_107 : decode b_M_init 107 = .ok (.dup, 1) := by decide +kernel
theorem d_M_init_108 : decode b_M_init 108 = .ok (.bipush 8, 2) := by decide +kernel
theorem d_M_init_110 : decode b_M_init 110 = .ok (.lconst 1, 1) := by decide +kernel
theorem d_M_init_111 : decode b_M_init 111 = .ok (.lastore, 1) := by decide +kernel
theorem d_M_init_112 : decode b_M_init 112 = .ok (.dup, 1) := by decide +kernel
theorem d_M_init_113 : decode b_M_init 113 = .ok (.bipush 9, 2) := by decide +kernel
theorem d_M_init_115 : decode b_M_init 115 = .ok (.lconst 1, 1) := by decide +kernel
theorem d_M_init_116 : decode b_M_init 116 = .ok (.lastore, 1) := by decide +kernel
theorem d_M_init_117 : decode b_M_init 117 = .ok (.dup, 1) := by decide +kernel
theorem d_M_init_118 : decode b_M_init 118 = .ok (.bipush 10, 2) := by decide +kernel
theorem d_M_init_120 : decode b_M_init 120 = .ok (.lconst 1, 1) := by decide +kernel
theorem d_M_init_121 : decode b_M_init 121 = .ok (.lastore, 1) := by decide +kernel
theorem d_M_init_122 : decode b_M_init 122 = .ok (.dup, 1) := by decide +kernel
theorem d_M_init_123 : decode b_M_init 123 = .ok (.bipush 11, 2) := by decide +kernel
theorem d_M_init_125 : decode b_M_init 125 = .ok (.lconst 1, 1) := by decide +kernel
theorem d_M_init_126 : decode b_M_init 126 = .ok (.lastore, 1) := by decide +kernel
theorem d_M_init_127 : decode b_M_init 127 = .ok (.dup, 1) := by decide +kernel
theorem d_M_init_128 : decode b_M_init 128 = .ok (.bipush 12, 2) := by decide +kernel
theorem d_M_init_130 : decode b_M_init 130 = .ok (.lconst 1, 1) := by decide +kernel
theorem d_M_init_131 : decode b_M_init 131 = .ok (.lastore, 1) := by decide +kernel
theorem d_M_init_132 : decode b_M_init 132 = .ok (.dup, 1) := by decide +kernel
theorem d_M_init_133 : decode b_M_init 133 = .ok (.bipush 13, 2) := by decide +kernel
theorem d_M_init_135 : decode b_M_init 135 = .ok (.lconst 1, 1) := by decide +kernel
theorem d_M_init_136 : decode b_M_init 136 = .ok (.lastore, 1) := by decide +kernel
theorem d_M_init_137 : decode b_M_init 137 = .ok (.dup, 1) := by decide +kernel
theorem d_M_init_138 : decode b_M_init 138 = .ok (.bipush 14, 2) := by decide +kernel
theorem d_M_init_140 : decode b_M_init 140 = .ok (.lconst 1, 1) := by decide +kernel
theorem d_M_init_141 : decode b_M_init 141 = .ok (.lastore, 1) := by decide +kernel
theorem d_M_init_142 : decode b_M_init 142 = .ok (.dup, 1) := by decide +kernel
theorem d_M_init_143 : decode b_M_init 143 = .ok (.bipush 15, 2) := by decide +kernel
theorem d_M_init_145 : decode b_M_init 145 = .ok (.lconst 1, 1) := by decide +kernel
theorem d_M_init_146 : decode b_M_init 146 = .ok (.lastore, 1) := by decide +kernel
theorem d_M_init_147 : decode b_M_init 147 = .ok (.putfield 36, 3) := by decide +kernel
theorem d_M_init_150 : decode b_M_init 150 = .ok (.aload_n 0, 1) := by decide +kernel
theorem d_M_init_151 : decode b_M_init 151 = .ok (.iconst 4, 1) := by decide +kernel
theorem d_M_init_152 : decode b_M_init 152 = .ok (.newarray .long, 2) := by decide +kernel
theorem d_M_init_154 : decode b_M_init 154 = .ok (.dup, 1) := by decide +kernel
theorem d_M_init_155 : decode b_M_init 155 = .ok (.iconst 0, 1) := by decide +kernel
theorem d_M_init_156 : decode b_M_init 156 = .ok (.ldc2_w 39, 3) := by decide +kernel
theorem d_M_init_159 : decode b_M_init 159 = .ok (.lastore, 1) := by decide +kernel
theorem d_M_init_160 : decode b_M_init 160 = .ok (.dup, 1) := by decide +kernel
theorem d_M_init_161 : decode b_M_init 161 = .ok (.iconst 1, 1) := by decide +kernel
theorem d_M_init_162 : decode b_M_init 162 = .ok (.ldc2_w 39, 3) := by decide +kernel
theorem d_M_init_165 : decode b_M_init 165 = .ok (.lastore, 1) := by decide +kernel
theorem d_M_init_166 : decode b_M_init 166 = .ok (.dup, 1) := by decide +kernel
theorem d_M_init_167 : decode b_M_init 167 = .ok (.iconst 2, 1) := by decide +kernel
theorem d_M_init_168 : decode b_M_init 168 = .ok (.ldc2_w 39, 3) := by decide +kernel
theorem d_M_init_171 : decode b_M_init 171 = .ok (.lastore, 1) := by decide +kernel
theorem d_M_init_172 : decode b_M_init 172 = .ok (.dup, 1) := by decide +kernel
theorem d_M_init_173 : decode b_M_init 173 = .ok (.iconst 3, 1) := by decide +kernel
theorem d_M_init_174 : decode b_M_init 174 = .ok (.ldc2_w 39, 3) := by decide +kernel
theorem d_M_init_177 : decode b_M_init 177 = .ok (.lastore, 1) := by decide +kernel
theorem d_M_init_178 : decode b_M_init 178 = .ok (.putfield 41, 3) := by decide +kernel
theorem d_M_init_181 : decode b_M_init 181 = .ok (.aload_n 0, 1) := by decide +kernel
theorem d_M_init_182 : decode b_M_init 182 = .ok (.sipush 160, 3) := by decide +kernel
theorem d_M_init_185 : decode b_M_init 185 = .ok (.newarray .int, 2) := by decide +kernel
theorem d_M_init_187 : decode b_M_init 187 = .ok (.putfield 44, 3) := by decide +kernel
theorem d_M_init_190 : decode b_M_init 190 = .ok (.aload_n 0, 1) := by decide +kernel
theorem d_M_init_191 : decode b_M_init 191 = .ok (.iconst 4, 1) := by decide +kernel
theorem d_M_init_192 : decode b_M_init 192 = .ok (.newarray .int, 2) := by decide +kernel
theorem d_M_init_194 : decode b_M_init 194 = .ok (.putfield 47, 3) := by decide +kernel
theorem d_M_init_197 : decode b_M_init 197 = .ok (.aload_n 0, 1) := by decide +kernel
theorem d_M_init_198 : decode b_M_init 198 = .ok (.iconst 4, 1) := by decide +kernel
theorem d_M_init_199 : decode b_M_init 199 = .ok (.newarray .long, 2) := by decide +kernel
theorem d_M_init_201 : decode b_M_init 201 = .ok (.dup, 1) := by decide +kernel
theorem d_M_init_202 : decode b_M_init 202 = .ok (.iconst 0, 1) := by decide +kernel
theorem d_M_init_203 : decode b_M_init 203 = .ok (.lconst 1, 1) := by decide +kernel
theorem d_M_init_204 : decode b_M_init 204 = .ok (.lastore, 1) := by decide +kernel
theorem d_M_init_205 : decode b_M_init 205 = .ok (.dup, 1) := by decide +kernel
theorem d_M_init_206 : decode b_M_init 206 = .ok (.iconst 1, 1) := by decide +kernel
theorem d_M_init_207 : decode b_M_init 207 = .ok (.lconst 1, 1) := by decide +kernel
theorem d_M_init_208 : decode b_M_init 208 = .ok (.lastore, 1) := by decide +kernel
theorem d_M_init_209 : decode b_M_init 209 = .ok (.dup, 1) := by decide +kernel
theorem d_M_init_210 : decode b_M_init 210 = .ok (.iconst 2, 1) := by decide +kernel
theorem d_M_init_211 : decode b_M_init 211 = .ok (.lconst 1, 1) := by decide +kernel
theorem d_M_init_212 : decode b_M_init 212 = .ok (.lastore, 1) := by decide +kernel
theorem d_M_init_213 : decode b_M_init 213 = .ok (.dup, 1) := by decide +kernel
theorem d_M_init_214 : decode b_M_init 214 = .ok (.iconst 3, 1) := by decide +kernel
theorem d_M_init_215 : decode b_M_init 215 = .ok (.lconst 1, 1) := by decide +kernel
theorem d_M_init_216 : decode b_M_init 216 = .ok (.lastore, 1) := by decide +kernel
theorem d_M_init_217 : decode b_M_init 217 = .ok (.putfield 50, 3) := by decide +kernel
theorem d_M_init_220 : decode b_M_init 220 = .ok (.aload_n 0, 1) := by decide +kernel
theorem d_M_init_221 : decode b_M_init 221 = .ok (.iconst 4, 1) := by decide +kernel
theorem d_M_init_222 : decode b_M_init 222 = .ok (.newarray .long, 2) := by decide +kernel
theorem d_M_init_224 : decode b_M_init 224 = .ok (.dup, 1) := by decide +kernel
theorem d_M_init_225 : decode b_M_init 225 = .ok (.iconst 0, 1) := by decide +kernel
theorem d_M_init_226 : decode b_M_init 226 = .ok (.lconst 1, 1) := by decide +kernel
theorem d_M_init_227 : decode b_M_init 227 = .ok (.lastore, 1) := by decide +kernel
theorem d_M_init_228 : decode b_M_init 228 = .ok (.dup, 1) := by decide +kernel
theorem d_M_init_229 : decode b_M_init 229 = .ok (.iconst 1, 1) := by decide +kernel
theorem d_M_init_230 : decode b_M_init 230 = .ok (.lconst 1, 1) := by decide +kernel
theorem d_M_init_231 : decode b_M_init 231 = .ok (.lastore, 1) := by decide +kernel
theorem d_M_init_232 : decode b_M_init 232 = .ok (.dup, 1) := by decide +kernel
theorem d_M_init_233 : decode b_M_init 233 = .ok (.iconst 2, 1) := by decide +kernel
theorem d_M_init_234 : decode b_M_init 234 = .ok (.lconst 1, 1) := by decide +kernel
theorem d_M_init_235 : decode b_M_init 235 = .ok (.lastore, 1) := by decide +kernel
theorem d_M_init_236 : decode b_M_init 236 = .ok (.dup, 1) := by decide +kernel
theorem d_M_init_237 : decode b_M_init 237 = .ok (.iconst 3, 1) := by decide +kernel
theorem d_M_init_238 : decode b_M_init 238 = .ok (.lconst 1, 1) := by decide +kernel
theorem d_M_init_239 : decode b_M_init 239 = .ok (.lastore, 1) := by decide +kernel
theorem d_M_init_240 : decode b_M_init 240 = .ok (.putfield 53, 3) := by decide +kernel
theorem d_M_init_243 : decode b_M_init 243 = .ok (.aload_n 0, 1) := by decide +kernel
theorem d_M_init_244 : decode b_M_init 244 = .ok (.sipush 1000, 3) := by decide +kernel
theorem d_M_init_247 : decode b_M_init 247 = .ok (.putfield 56, 3) := by decide +kernel
theorem d_M_init_250 : decode b_M_init 250 = .ok (.aload_n 0, 1) := by decide +kernel
theorem d_M_init_251 : decode b_M_init 251 = .ok (.iconst 4, 1) := by decide +kernel
theorem d_M_init_252 : decode b_M_init 252 = .ok (.putfield 60, 3) := by decide +kernel
theorem d_M_init_255 : decode b_M_init 255 = .ok (.aload_n 0, 1) := by decide +kernel
theorem d_M_init_256 : decode b_M_init 256 = .ok (.sipush 500, 3) := by decide +kernel
theorem d_M_init_259 : decode b_M_init 259 = .ok (.putfield 63, 3) := by decide +kernel
theorem d_M_init_262 : decode b_M_init 262 = .ok (.aload_n 0, 1) := by decide +kernel
theorem d_M_init_263 : decode b_M_init 263 = .ok (.sipush 600, 3) := by decide +kernel
theorem d_M_init_266 : decode b_M_init 266 = .ok (.putfield 66, 3) := by decide +kernel
theorem d_M_init_269 : decode b_M_init 269 = .ok (.aload_n 0, 1) := by decide +kernel
theorem d_M_init_270 : decode b_M_init 270 = .ok (.sipush 288, 3) := by decide +kernel
theorem d_M_init_273 : decode b_M_init 273 = .ok (.newarray .int, 2) := by decide +kernel
theorem d_M_init_275 : decode b_M_init 275 = .ok (.putfield 69, 3) := by decide +kernel
theorem d_M_init_278 : decode b_M_init 278 = .ok (.aload_n 0, 1) := by decide +kernel
theorem d_M_init_279 : decode b_M_init 279 = .ok (.bipush 12, 2) := by decide +kernel
theorem d_M_init_281 : decode b_M_init 281 = .ok (.newarray .int, 2) := by decide +kernel
theorem d_M_init_283 : decode b_M_init 283 = .ok (.putfield 72, 3) := by decide +kernel
theorem d_M_init_286 : decode b_M_init 286 = .ok (.aload_n 0, 1) := by decide +kernel
theorem d_M_init_287 : decode b_M_init 287 = .ok (.bipush 12, 2) := by decide +kernel
theorem d_M_init_289 : decode b_M_init 289 = .ok (.newarray .int, 2) := by decide +kernel
theorem d_M_init_291 : decode b_M_init 291 = .ok (.dup, 1) := by decide +kernel
theorem d_M_init_292 : decode b_M_init 292 = .ok (.iconst 0, 1) := by decide +kernel
theorem d_M_init_293 : decode b_M_init 293 = .ok (.iconst (-1), 1) := by decide +kernel
theorem d_M_init_294 : decode b_M_init 294 = .ok (.iastore, 1) := by decide +kernel
theorem d_M_init_295 : decode b_M_init 295 = .ok (.dup, 1) := by decide +kernel
theorem d_M_init_296 : decode b_M_init 296 = .ok (.iconst 1, 1) := by decide +kernel
theorem d_M_init_297 : decode b_M_init 297 = .ok (.iconst (-1), 1) := by decide +kernel
theorem d_M_init_298 : decode b_M_init 298 = .ok (.iastore, 1) := by decide +kernel
theorem d_M_init_299 : decode b_M_init 299 = .ok (.dup, 1) := by decide +kernel
theorem d_M_init_300 : decode b_M_init 300 = .ok (.iconst 2, 1) := by decide +kernel
theorem d_M_init_301 : decode b_M_init 301 = .ok (.iconst (-1), 1) := by decide +kernel
theorem d_M_init_302 : decode b_M_init 302 = .ok (.iastore, 1) := by decide +kernel
theorem d_M_init_303 : decode b_M_init 303 = .ok (.dup, 1) := by decide +kernel
theorem d_M_init_304 : decode b_M_init 304 = .ok (.iconst 3, 1) := by decide +kernel
theorem d_M_init_305 : decode b_M_init 305 = .ok (.iconst (-1), 1) := by decide +kernel
theorem d_M_init_306 : decode b_M_init 306 = .ok (.iastore, 1) := by decide +kernel
theorem d_M_init_307 : decode b_M_init 307 = .ok (.dup, 1) := by decide +kernel
theorem d_M_init_308 : decode b_M_init 308 = .ok (.iconst 4, 1) := by decide +kernel
theorem d_M_init_309 : decode b_M_init 309 = .ok (.iconst (-1), 1) := by decide +kernel
theorem d_M_init_310 : decode b_M_init 310 = .ok (.iastore, 1) := by decide +kernel
theorem d_M_init_311 : decode b_M_init 311 = .ok (.dup, 1) := by decide +kernel
theorem d_M_init_312 : decode b_M_init 312 = .ok (.iconst 5, 1) := by decide +kernel
theorem d_M_init_313 : decode b_M_init 313 = .ok (.iconst (-1), 1) := by decide +kernel
theorem d_M_init_314 : decode b_M_init 314 = .ok (.iastore, 1) := by decide +kernel
theorem d_M_init_315 : decode b_M_init 315 = .ok (.dup, 1) := by decide +kernel
theorem d_M_init_316 : decode b_M_init 316 = .ok (.bipush 6, 2) := by decide +kernel
theorem d_M_init_318 : decode b_M_init 318 = .ok (.iconst (-1), 1) := by decide +kernel
theorem d_M_init_319 : decode b_M_init 319 = .ok (.iastore, 1) := by decide +kernel
theorem d_M_init_320 : decode b_M_init 320 = .ok (.dup, 1) := by decide +kernel
theorem d_M_init_321 : decode b_M_init 321 = .ok (.bipush 7, 2) := by decide +kernel
theorem d_M_init_323 : decode b_M_init 323 = .ok (.iconst (-1), 1) := by decide +kernel
theorem d_M_init_324 : decode b_M_init 324 = .ok (.iastore, 1) := by decide +kernel
theorem d_M_init_325 : decode b_M_init 325 = .ok (.dup, 1) := by decide +kernel
theorem d_M_init_326 : decode b_M_init 326 = .ok (.bipush 8, 2) := by decide +kernel
theorem d_M_init_328 : decode b_M_init 328 = .ok (.iconst (-1), 1) := by decide +kernel
theorem d_M_init_329 : decode b_M_init 329 = .ok (.iastore, 1) := by decide +kernel
theorem d_M_init_330 : decode b_M_init 330 = .ok (.dup, 1) := by decide +kernel
theorem d_M_init_331 : decode b_M_init 331 = .ok (.bipush 9, 2) := by decide +kernel
theorem d_M_init_333 : decode b_M_init 333 = .ok (.iconst (-1), 1) := by decide +kernel
theorem d_M_init_334 : decode b_M_init 334 = .ok (.iastore, 1) := by decide +kernel
theorem d_M_init_335 : decode b_M_init 335 = .ok (.dup, 1) := by decide +kernel
theorem d_M_init_336 : decode b_M_init 336 = .ok (.bipush 10, 2) := by decide +kernel
theorem d_M_init_338 : decode b_M_init 338 = .ok (.iconst (-1), 1) := by decide +kernel
theorem d_M_init_339 : decode b_M_init 339 = .ok (.iastore, 1) := by decide +kernel
theorem d_M_init_340 : decode b_M_init 340 = .ok (.dup, 1) := by decide +kernel
theorem d_M_init_341 : decode b_M_init 341 = .ok (.bipush 11, 2) := by decide +kernel
theorem d_M_init_343 : decode b_M_init 343 = .ok (.iconst (-1), 1) := by decide +kernel
theorem d_M_init_344 : decode b_M_init 344 = .ok (.iastore, 1) := by decide +kernel
theorem d_M_init_345 : decode b_M_init 345 = .ok (.putfield 75, 3) := by decide +kernel
theorem d_M_init_348 : decode b_M_init 348 = .ok (.aload_n 0, 1) := by decide +kernel
theorem d_M_init_349 : decode b_M_init 349 = .ok (.bipush 16, 2) := by decide +kernel
theorem d_M_init_351 : decode b_M_init 351 = .ok (.newarray .int, 2) := by decide +kernel
theorem d_M_init_353 : decode b_M_init 353 = .ok (.putfield 78, 3) := by decide +kernel
theorem d_M_init_356 : decode b_M_init 356 = .ok (.aload_n 0, 1) := by decide +kernel
theorem d_M_init_357 : decode b_M_init 357 = .ok (.bipush 16, 2) := by decide +kernel
theorem d_M_init_359 : decode b_M_init 359 = .ok (.newarray .int, 2) := by decide +kernel
theorem d_M_init_361 : decode b_M_init 361 = .ok (.putfield 81, 3) := by decide +kernel
theorem d_M_init_364 : decode b_M_init 364 = .ok (.aload_n 0, 1) := by decide +kernel
theorem d_M_init_365 : decode b_M_init 365 = .ok (.iload_n 1, 1) := by decide +kernel
theorem d_M_init_366 : decode b_M_init 366 = .ok (.i2l, 1) := by decide +kernel
theorem d_M_init_367 : decode b_M_init 367 = .ok (.putfield 84, 3) := by decide +kernel
theorem d_M_init_370 : decode b_M_init 370 = .ok (.return_, 1) := by decide +kernel
theorem d_M_thrown_0 : decode b_M_thrown 0 = .ok (.aload_n 0, 1) := by decide +kernel
theorem d_M_thrown_1 : decode b_M_thrown 1 = .ok (.getfield 88, 3) := by decide +kernel
theorem d_M_thrown_4 : decode b_M_thrown 4 = .ok (.ireturn, 1) := by decide +kernel
theorem d_M_isIn_0 : decode b_M_isIn 0 = .ok (.lload_n 0, 1) := by decide +kernel
theorem d_M_isIn_1 : decode b_M_isIn 1 = .ok (.lload_n 2, 1) := by decide +kernel
theorem d_M_isIn_2 : decode b_M_isIn 2 = .ok (.lcmp, 1) := by decide +kernel
theorem d_M_isIn_3 : decode b_M_isIn 3 = .ok (.ifCond .lt 14, 3) := by decide +kernel
theorem d_M_isIn_6 : decode b_M_isIn 6 = .ok (.lload_n 0, 1) := by decide +kernel
theorem d_M_isIn_7 : decode b_M_isIn 7 = .ok (.lload 4, 2) := by decide +kernel
theorem d_M_isIn_9 : decode b_M_isIn 9 = .ok (.lcmp, 1) := by decide +kernel
theorem d_M_isIn_10 : decode b_M_isIn 10 = .ok (.ifCond .gt 7, 3) := by decide +kernel
theorem d_M_isIn_13 : decode b_M_isIn 13 = .ok (.iconst 1, 1) := by decide +kernel
theorem d_M_isIn_14 : decode b_M_isIn 14 = .ok (.goto 4, 3) := by decide +kernel
theorem d_M_isIn_17 : decode b_M_isIn 17 = .ok (.iconst 0, 1) := by decide +kernel
theorem d_M_isIn_18 : decode b_M_isIn 18 = .ok (.ireturn, 1) := by decide +kernel
theorem d_M_isFour_0 : decode b_M_isFour 0 = .ok (.iload_n 0, 1) := by decide +kernel
theorem d_M_isFour_1 : decode b_M_isFour 1 = .ok (.ifCond .lt 12, 3) := by decide +kernel
theorem d_M_isFour_4 : decode b_M_isFour 4 = .ok (.iload_n 0, 1) := by decide +kernel
theorem d_M_isFour_5 : decode b_M_isFour 5 = .ok (.iconst 4, 1) := by decide +kernel
theorem d_M_isFour_6 : decode b_M_isFour 6 = .ok (.if_icmp .ge 7, 3) := by decide +kernel
theorem d_M_isFour_9 : decode b_M_isFour 9 = .ok (.iconst 1, 1) := by decide +kernel
theorem d_M_isFour_10 : decode b_M_isFour 10 = .ok (.goto 4, 3) := by decide +kernel
theorem d_M_isFour_13 : decode b_M_isFour 13 = .ok (.iconst 0, 1) := by decide +kernel
theorem d_M_isFour_14 : decode b_M_isFour 14 = .ok (.ireturn, 1) := by decide +kernel
theorem d_M_noTool_0 : decode b_M_noTool 0 = .ok (.iload_n 1, 1) := by decide +kernel
theorem d_M_noTool_1 : decode b_M_noTool 1 = .ok (.ifCond .lt 11, 3) := by decide +kernel
theorem d_M_noTool_4 : decode b_M_noTool 4 = .ok (.iload_n 1, 1) := by decide +kernel
theorem d_M_noTool_5 : decode b_M_noTool 5 = .ok (.aload_n 0, 1) := by decide +kernel
theorem d_M_noTool_6 : decode b_M_noTool 6 = .ok (.getfield 91, 3) := by decide +kernel
theorem d_M_noTool_9 : decode b_M_noTool 9 = .ok (.if_icmp .lt 7, 3) := by decide +kernel
theorem d_M_noTool_12 : decode b_M_noTool 12 = .ok (.iconst 1, 1) := by decide +kernel
theorem d_M_noTool_13 : decode b_M_noTool 13 = .ok (.goto 4, 3) := by decide +kernel
theorem d_M_noTool_16 : decode b_M_noTool 16 = .ok (.iconst 0, 1) := by decide +kernel
theorem d_M_noTool_17 : decode b_M_noTool 17 = .ok (.ireturn, 1) := by decide +kernel
theorem d_M_tool_0 : decode b_M_tool 0 = .ok (.aload_n 0, 1) := by decide +kernel
theorem d_M_tool_1 : decode b_M_tool 1 = .ok (.iload_n 1, 1) := by decide +kernel
theorem d_M_tool_2 : decode b_M_tool 2 = .ok (.invokestatic 94, 3) := by decide +kernel
theorem d_M_tool_5 : decode b_M_tool 5 = .ok (.ifCond .ne 7, 3) := by decide +kernel
theorem d_M_tool_8 : decode b_M_tool 8 = .ok (.iconst 1, 1) := by decide +kernel
theorem d_M_tool_9 : decode b_M_tool 9 = .ok (.goto 38, 3) := by decide +kernel
theorem d_M_tool_12 : decode b_M_tool 12 = .ok (.iload_n 3, 1) := by decide +kernel
theorem d_M_tool_13 : decode b_M_tool 13 = .ok (.i2l, 1) := by decide +kernel
theorem d_M_tool_14 : decode b_M_tool 14 = .ok (.lconst 0, 1) := by decide +kernel
theorem d_M_tool_15 : decode b_M_tool 15 = .ok (.iload_n 2, 1) := by decide +kernel
theorem d_M_tool_16 : decode b_M_tool 16 = .ok (.i2l, 1) := by decide +kernel
theorem d_M_tool_17 : decode b_M_tool 17 = .ok (.invokestatic 98, 3) := by decide +kernel
theorem d_M_tool_20 : decode b_M_tool 20 = .ok (.ifCond .eq 9, 3) := by decide +kernel
theorem d_M_tool_23 : decode b_M_tool 23 = .ok (.iload_n 2, 1) := by decide +kernel
theorem d_M_tool_24 : decode b_M_tool 24 = .ok (.ldc 102, 2) := by decide +kernel
theorem d_M_tool_26 : decode b_M_tool 26 = .ok (.if_icmp .le 7, 3) := by decide +kernel
theorem d_M_tool_29 : decode b_M_tool 29 = .ok (.iconst 2, 1) := by decide +kernel
theorem d_M_tool_30 : decode b_M_tool 30 = .ok (.goto 17, 3) := by decide +kernel
theorem d_M_tool_33 : decode b_M_tool 33 = .ok (.aload_n 0, 1) := by decide +kernel
theorem d_M_tool_34 : decode b_M_tool 34 = .ok (.getfield 91, 3) := by decide +kernel
theorem d_M_tool_37 : decode b_M_tool 37 = .ok (.bipush 12, 2) := by decide +kernel
theorem d_M_tool_39 : decode b_M_tool 39 = .ok (.if_icmp .ne 7, 3) := by decide +kernel
theorem d_M_tool_42 : decode b_M_tool 42 = .ok (.iconst 3, 1) := by decide +kernel
theorem d_M_tool_43 : decode b_M_tool 43 = .ok (.goto 4, 3) := by decide +kernel
theorem d_M_tool_46 : decode b_M_tool 46 = .ok (.iconst 0, 1) := by decide +kernel
theorem d_M_tool_47 : decode b_M_tool 47 = .ok (.putfield 88, 3) := by decide +kernel
theorem d_M_tool_50 : decode b_M_tool 50 = .ok (.aload_n 0, 1) := by decide +kernel
theorem d_M_tool_51 : decode b_M_tool 51 = .ok (.getfield 88, 3) := by decide +kernel
theorem d_M_tool_54 : decode b_M_tool 54 = .ok (.ifCond .le 5, 3) := by decide +kernel
theorem d_M_tool_57 : decode b_M_tool 57 = .ok (.iconst 0, 1) := by decide +kernel
theorem d_M_tool_58 : decode b_M_tool 58 = .ok (.ireturn, 1) := by decide +kernel
theorem d_M_tool_59 : decode b_M_tool 59 = .ok (.aload_n 0, 1) := by decide +kernel
theorem d_M_tool_60 : decode b_M_tool 60 = .ok (.getfield 7, 3) := by decide +kernel
theorem d_M_tool_63 : decode b_M_tool 63 = .ok (.aload_n 0, 1) := by decide +kernel
theorem d_M_tool_64 : decode b_M_tool 64 = .ok (.getfield 91, 3) := by decide +kernel
theorem d_M_tool_67 : decode b_M_tool 67 = .ok (.iload_n 1, 1) := by decide +kernel
theorem d_M_tool_68 : decode b_M_tool 68 = .ok (.iastore, 1) := by decide +kernel
theorem d_M_tool_69 : decode b_M_tool 69 = .ok (.aload_n 0, 1) := by decide +kernel
theorem d_M_tool_70 : decode b_M_tool 70 = .ok (.getfield 13, 3) := by decide +kernel
theorem d_M_tool_73 : decode b_M_tool 73 = .ok (.aload_n 0, 1) := by decide +kernel
theorem d_M_tool_74 : decode b_M_tool 74 = .ok (.getfield 91, 3) := by decide +kernel
theorem d_M_tool_77 : decode b_M_tool 77 = .ok (.iload_n 2, 1) := by decide +kernel
theorem d_M_tool_78 : decode b_M_tool 78 = .ok (.iastore, 1) := by decide +kernel
theorem d_M_tool_79 : decode b_M_tool 79 = .ok (.aload_n 0, 1) := by decide +kernel
theorem d_M_tool_80 : decode b_M_tool 80 = .ok (.getfield 16, 3) := by decide +kernel
theorem d_M_tool_83 : decode b_M_tool 83 = .ok (.aload_n 0, 1) := by decide +kernel
theorem d_M_tool_84 : decode b_M_tool 84 = .ok (.getfield 91, 3) := by decide +kernel
theorem d_M_tool_87 : decode b_M_tool 87 = .ok (.iload_n 3, 1) := by decide +kernel
theorem d_M_tool_88 : decode b_M_tool 88 = .ok (.iastore, 1) := by decide +kernel
theorem d_M_tool_89 : decode b_M_tool 89 = .ok (.aload_n 0, 1) := by decide +kernel
theorem d_M_tool_90 : decode b_M_tool 90 = .ok (.dup, 1) := by decide +kernel
theorem d_M_tool_91 : decode b_M_tool 91 = .ok (.getfield 91, 3) := by decide +kernel
theorem d_M_tool_94 : decode b_M_tool 94 = .ok (.iconst 1, 1) := by decide +kernel
theorem d_M_tool_95 : decode b_M_tool 95 = .ok (.iadd, 1) := by decide +kernel
theorem d_M_tool_96 : decode b_M_tool 96 = .ok (.putfield 91, 3) := by decide +kernel
theorem d_M_tool_99 : decode b_M_tool 99 = .ok (.aload_n 0, 1) := by decide +kernel
theorem d_M_tool_100 : decode b_M_tool 100 = .ok (.getfield 91, 3) := by decide +kernel
theorem d_M_tool_103 : decode b_M_tool 103 = .ok (.iconst 1, 1) := by decide +kernel
theorem d_M_tool_104 : decode b_M_tool 104 = .ok (.isub, 1) := by decide +kernel
theorem d_M_tool_105 : decode b_M_tool 105 = .ok (.ireturn, 1) := by decide +kernel
theorem d_M_rate_0 : decode b_M_rate 0 = .ok (.aload_n 0, 1) := by decide +kernel
theorem d_M_rate_1 : decode b_M_rate 1 = .ok (.iload_n 1, 1) := by decide +kernel
theorem d_M_rate_2 : decode b_M_rate 2 = .ok (.invokestatic 94, 3) := by decide +kernel
theorem d_M_rate_5 : decode b_M_rate 5 = .ok (.ifCond .eq 10, 3) := by decide +kernel
theorem d_M_rate_8 : decode b_M_rate 8 = .ok (.iload_n 2, 1) := by decide +kernel
theorem d_M_rate_9 : decode b_M_rate 9 = .ok (.invokestatic 94, 3) := by decide +kernel
theorem d_M_rate_12 : decode b_M_rate 12 = .ok (.ifCond .ne 7, 3) := by decide +kernel
theorem d_M_rate_15 : decode b_M_rate 15 = .ok (.iconst 1, 1) := by decide +kernel
theorem d_M_rate_16 : decode b_M_rate 16 = .ok (.goto 20, 3) := by decide +kernel
theorem d_M_rate_19 : decode b_M_rate 19 = .ok (.iload_n 3, 1) := by decide +kernel
theorem d_M_rate_20 : decode b_M_rate 20 = .ok (.i2l, 1) := by decide +kernel
theorem d_M_rate_21 : decode b_M_rate 21 = .ok (.lconst 0, 1) := by decide +kernel
theorem d_M_rate_22 : decode b_M_rate 22 = .ok (.ldc2_w 39, 3) := by decide +kernel
theorem d_M_rate_25 : decode b_M_rate 25 = .ok (.invokestatic 98, 3) := by decide +kernel
theorem d_M_rate_28 : decode b_M_rate 28 = .ok (.ifCond .eq 7, 3) := by decide +kernel
theorem d_M_rate_31 : decode b_M_rate 31 = .ok (.iconst 0, 1) := by decide +kernel
theorem d_M_rate_32 : decode b_M_rate 32 = .ok (.goto 4, 3) := by decide +kernel
theorem d_M_rate_35 : decode b_M_rate 35 = .ok (.iconst 2, 1) := by decide +kernel
theorem d_M_rate_36 : decode b_M_rate 36 = .ok (.putfield 88, 3) := by decide +kernel
theorem d_M_rate_39 : decode b_M_rate 39 = .ok (.aload_n 0, 1) := by decide +kernel
theorem d_M_rate_40 : decode b_M_rate 40 = .ok (.getfield 88, 3) := by decide +kernel
theorem d_M_rate_43 : decode b_M_rate 43 = .ok (.ifCond .ne 15, 3) := by decide +kernel
theorem d_M_rate_46 : decode b_M_rate 46 = .ok (.aload_n 0, 1) := by decide +kernel
theorem d_M_rate_47 : decode b_M_rate 47 = .ok (.getfield 36, 3) := by decide +kernel
theorem d_M_rate_50 : decode b_M_rate 50 = .ok (.iconst 4, 1) := by decide +kernel
theorem d_M_rate_51 : decode b_M_rate 51 = .ok (.iload_n 1, 1) := by decide +kernel
theorem d_M_rate_52 : decode b_M_rate 52 = .ok (.imul, 1) := by decide +kernel
theorem d_M_rate_53 : decode b_M_rate 53 = .ok (.iload_n 2, 1) := by decide +kernel
theorem d_M_rate_54 : decode b_M_rate 54 = .ok (.iadd, 1) := by decide +kernel
theorem d_M_rate_55 : decode b_M_rate 55 = .ok (.iload_n 3, 1) := by decide +kernel
theorem d_M_rate_56 : decode b_M_rate 56 = .ok (.i2l, 1) := by decide +kernel
theorem d_M_rate_57 : decode b_M_rate 57 = .ok (.lastore, 1) := by decide +kernel
theorem d_M_rate_58 : decode b_M_rate 58 = .ok (.return_, 1) := by decide +kernel
theorem d_M_limit_0 : decode b_M_limit 0 = .ok (.aload_n 0, 1) := by decide +kernel
theorem d_M_limit_1 : decode b_M_limit 1 = .ok (.iload_n 1, 1) := by decide +kernel
theorem d_M_limit_2 : decode b_M_limit 2 = .ok (.invokestatic 94, 3) := by decide +kernel
theorem d_M_limit_5 : decode b_M_limit 5 = .ok (.ifCond .ne 7, 3) := by decide +kernel
theorem d_M_limit_8 : decode b_M_limit 8 = .ok (.iconst 1, 1) := by decide +kernel
theorem d_M_limit_9 : decode b_M_limit 9 = .ok (.goto 19, 3) := by decide +kernel
theorem d_M_limit_12 : decode b_M_limit 12 = .ok (.lload_n 2, 1) := by decide +kernel
theorem d_M_limit_13 : decode b_M_limit 13 = .ok (.lconst 1, 1) := by decide +kernel
theorem d_M_limit_14 : decode b_M_limit 14 = .ok (.ldc2_w 103, 3) := by decide +kernel
theorem d_M_limit_17 : decode b_M_limit 17 = .ok (.invokestatic 98, 3) := by decide +kernel
theorem d_M_limit_20 : decode b_M_limit 20 = .ok (.ifCond .eq 7, 3) := by decide +kernel
theorem d_M_limit_23 : decode b_M_limit 23 = .ok (.iconst 0, 1) := by decide +kernel
theorem d_M_limit_24 : decode b_M_limit 24 = .ok (.goto 4, 3) := by decide +kernel
theorem d_M_limit_27 : decode b_M_limit 27 = .ok (.iconst 2, 1) := by decide +kernel
theorem d_M_limit_28 : decode b_M_limit 28 = .ok (.putfield 88, 3) := by decide +kernel
theorem d_M_limit_31 : decode b_M_limit 31 = .ok (.aload_n 0, 1) := by decide +kernel
theorem d_M_limit_32 : decode b_M_limit 32 = .ok (.getfield 88, 3) := by decide +kernel
theorem d_M_limit_35 : decode b_M_limit 35 = .ok (.ifCond .ne 10, 3) := by decide +kernel
theorem d_M_limit_38 : decode b_M_limit 38 = .ok (.aload_n 0, 1) := by decide +kernel
theorem d_M_limit_39 : decode b_M_limit 39 = .ok (.getfield 41, 3) := by decide +kernel
theorem d_M_limit_42 : decode b_M_limit 42 = .ok (.iload_n 1, 1) := by decide +kernel
theorem d_M_limit_43 : decode b_M_limit 43 = .ok (.lload_n 2, 1) := by decide +kernel
theorem d_M_limit_44 : decode b_M_limit 44 = .ok (.lastore, 1) := by decide +kernel
theorem d_M_limit_45 : decode b_M_limit 45 = .ok (.return_, 1) := by decide +kernel
theorem d_M_isBlunt_0 : decode b_M_isBlunt 0 = .ok (.aload_n 0, 1) := by decide +kernel
theorem d_M_isBlunt_1 : decode b_M_isBlunt 1 = .ok (.getfield 19, 3) := by decide +kernel
theorem d_M_isBlunt_4 : decode b_M_isBlunt 4 = .ok (.iload_n 1, 1) := by decide +kernel
theorem d_M_isBlunt_5 : decode b_M_isBlunt 5 = .ok (.laload, 1) := by decide +kernel
theorem d_M_isBlunt_6 : decode b_M_isBlunt 6 = .ok (.aload_n 0, 1) := by decide +kernel
theorem d_M_isBlunt_7 : decode b_M_isBlunt 7 = .ok (.getfield 41, 3) := by decide +kernel
theorem d_M_isBlunt_10 : decode b_M_isBlunt 10 = .ok (.aload_n 0, 1) := by decide +kernel
theorem d_M_isBlunt_11 : decode b_M_isBlunt 11 = .ok (.getfield 7, 3) := by decide +kernel
theorem d_M_isBlunt_14 : decode b_M_isBlunt 14 = .ok (.iload_n 1, 1) := by decide +kernel
theorem d_M_isBlunt_15 : decode b_M_isBlunt 15 = .ok (.iaload, 1) := by decide +kernel
theorem d_M_isBlunt_16 : decode b_M_isBlunt 16 = .ok (.laload, 1) := by decide +kernel
theorem d_M_isBlunt_17 : decode b_M_isBlunt 17 = .ok (.lcmp, 1) := by decide +kernel
theorem d_M_isBlunt_18 : decode b_M_isBlunt 18 = .ok (.ifCond .le 7, 3) := by decide +kernel
theorem d_M_isBlunt_21 : decode b_M_isBlunt 21 = .ok (.iconst 1, 1) := by decide +kernel
theorem d_M_isBlunt_22 : decode b_M_isBlunt 22 = .ok (.goto 4, 3) := by decide +kernel
theorem d_M_isBlunt_25 : decode b_M_isBlunt 25 = .ok (.iconst 0, 1) := by decide +kernel
theorem d_M_isBlunt_26 : decode b_M_isBlunt 26 = .ok (.ireturn, 1) := by decide +kernel
theorem d_M_use_0 : decode b_M_use 0 = .ok (.aload_n 0, 1) := by decide +kernel
theorem d_M_use_1 : decode b_M_use 1 = .ok (.aload_n 0, 1) := by decide +kernel
theorem d_M_use_2 : decode b_M_use 2 = .ok (.iload_n 1, 1) := by decide +kernel
theorem d_M_use_3 : decode b_M_use 3 = .ok (.invokevirtual 105, 3) := by decide +kernel
theorem d_M_use_6 : decode b_M_use 6 = .ok (.ifCond .ne 18, 3) := by decide +kernel
theorem d_M_use_9 : decode b_M_use 9 = .ok (.iload_n 3, 1) := by decide +kernel
theorem d_M_use_10 : decode b_M_use 10 = .ok (.invokestatic 94, 3) := by decide +kernel
theorem d_M_use_13 : decode b_M_use 13 = .ok (.ifCond .eq 11, 3) := by decide +kernel
theorem d_M_use_16 : decode b_M_use 16 = .ok (.iload 4, 2) := by decide +kernel
theorem d_M_use_18 : decode b_M_use 18 = .ok (.invokestatic 94, 3) := by decide +kernel
theorem d_M_use_21 : decode b_M_use 21 = .ok (.ifCond .ne 7, 3) := by decide +kernel
theorem d_M_use_24 : decode b_M_use 24 = .ok (.iconst 1, 1) := by decide +kernel
theorem d_M_use_25 : decode b_M_use 25 = .ok (.goto 33, 3) := by decide +kernel
theorem d_M_use_28 : decode b_M_use 28 = .ok (.iload_n 2, 1) := by decide +kernel
theorem d_M_use_29 : decode b_M_use 29 = .ok (.i2l, 1) := by decide +kernel
theorem d_M_use_30 : decode b_M_use 30 = .ok (.lconst 0, 1) := by decide +kernel
theorem d_M_use_31 : decode b_M_use 31 = .ok (.ldc2_w 39, 3) := by decide +kernel
theorem d_M_use_34 : decode b_M_use 34 = .ok (.invokestatic 98, 3) := by decide +kernel
theorem d_M_use_37 : decode b_M_use 37 = .ok (.ifCond .ne 7, 3) := by decide +kernel
theorem d_M_use_40 : decode b_M_use 40 = .ok (.iconst 2, 1) := by decide +kernel
theorem d_M_use_41 : decode b_M_use 41 = .ok (.goto 17, 3) := by decide +kernel
theorem d_M_use_44 : decode b_M_use 44 = .ok (.aload_n 0, 1) := by decide +kernel
theorem d_M_use_45 : decode b_M_use 45 = .ok (.getfield 23, 3) := by decide +kernel
theorem d_M_use_48 : decode b_M_use 48 = .ok (.iload_n 1, 1) := by decide +kernel
theorem d_M_use_49 : decode b_M_use 49 = .ok (.baload, 1) := by decide +kernel
theorem d_M_use_50 : decode b_M_use 50 = .ok (.ifCond .eq 7, 3) := by decide +kernel
theorem d_M_use_53 : decode b_M_use 53 = .ok (.iconst 3, 1) := by decide +kernel
theorem d_M_use_54 : decode b_M_use 54 = .ok (.goto 4, 3) := by decide +kernel
theorem d_M_use_57 : decode b_M_use 57 = .ok (.iconst 0, 1) := by decide +kernel
theorem d_M_use_58 : decode b_M_use 58 = .ok (.putfield 88, 3) := by decide +kernel
theorem d_M_use_61 : decode b_M_use 61 = .ok (.aload_n 0, 1) := by decide +kernel
theorem d_M_use_62 : decode b_M_use 62 = .ok (.getfield 88, 3) := by decide +kernel
theorem d_M_use_65 : decode b_M_use 65 = .ok (.ifCond .le 5, 3) := by decide +kernel
theorem d_M_use_68 : decode b_M_use 68 = .ok (.iconst 0, 1) := by decide +kernel
theorem d_M_use_69 : decode b_M_use 69 = .ok (.ireturn, 1) := by decide +kernel
theorem d_M_use_70 : decode b_M_use 70 = .ok (.aload_n 0, 1) := by decide +kernel
theorem d_M_use_71 : decode b_M_use 71 = .ok (.getfield 19, 3) := by decide +kernel
theorem d_M_use_74 : decode b_M_use 74 = .ok (.iload_n 1, 1) := by decide +kernel
theorem d_M_use_75 : decode b_M_use 75 = .ok (.aload_n 0, 1) := by decide +kernel
theorem d_M_use_76 : decode b_M_use 76 = .ok (.getfield 19, 3) := by decide +kernel
theorem d_M_use_79 : decode b_M_use 79 = .ok (.iload_n 1, 1) := by decide +kernel
theorem d_M_use_80 : decode b_M_use 80 = .ok (.laload, 1) := by decide +kernel
theorem d_M_use_81 : decode b_M_use 81 = .ok (.iload_n 2, 1) := by decide +kernel
theorem d_M_use_82 : decode b_M_use 82 = .ok (.i2l, 1) := by decide +kernel
theorem d_M_use_83 : decode b_M_use 83 = .ok (.aload_n 0, 1) := by decide +kernel
theorem d_M_use_84 : decode b_M_use 84 = .ok (.getfield 36, 3) := by decide +kernel
theorem d_M_use_87 : decode b_M_use 87 = .ok (.iconst 4, 1) := by decide +kernel
theorem d_M_use_88 : decode b_M_use 88 = .ok (.iload_n 3, 1) := by decide +kernel
theorem d_M_use_89 : decode b_M_use 89 = .ok (.imul, 1) := by decide +kernel
theorem d_M_use_90 : decode b_M_use 90 = .ok (.iload 4, 2) := by decide +kernel
theorem d_M_use_92 : decode b_M_use 92 = .ok (.iadd, 1) := by decide +kernel
theorem d_M_use_93 : decode b_M_use 93 = .ok (.laload, 1) := by decide +kernel
theorem d_M_use_94 : decode b_M_use 94 = .ok (.lmul, 1) := by decide +kernel
theorem d_M_use_95 : decode b_M_use 95 = .ok (.ladd, 1) := by decide +kernel
theorem d_M_use_96 : decode b_M_use 96 = .ok (.lastore, 1) := by decide +kernel
theorem d_M_use_97 : decode b_M_use 97 = .ok (.aload_n 0, 1) := by decide +kernel
theorem d_M_use_98 : decode b_M_use 98 = .ok (.getfield 19, 3) := by decide +kernel
theorem d_M_use_101 : decode b_M_use 101 = .ok (.iload_n 1, 1) := by decide +kernel
theorem d_M_use_102 : decode b_M_use 102 = .ok (.aload_n 0, 1) := by decide +kernel
theorem d_M_use_103 : decode b_M_use 103 = .ok (.getfield 19, 3) := by decide +kernel
theorem d_M_use_106 : decode b_M_use 106 = .ok (.iload_n 1, 1) := by decide +kernel
theorem d_M_use_107 : decode b_M_use 107 = .ok (.laload, 1) := by decide +kernel
theorem d_M_use_108 : decode b_M_use 108 = .ok (.ldc2_w 108, 3) := by decide +kernel
theorem d_M_use_111 : decode b_M_use 111 = .ok (.lcmp, 1) := by decide +kernel
theorem d_M_use_112 : decode b_M_use 112 = .ok (.ifCond .le 9, 3) := by decide +kernel
theorem d_M_use_115 : decode b_M_use 115 = .ok (.ldc2_w 108, 3) := by decide +kernel
theorem d_M_use_118 : decode b_M_use 118 = .ok (.goto 9, 3) := by decide +kernel
theorem d_M_use_121 : decode b_M_use 121 = .ok (.aload_n 0, 1) := by decide +kernel
theorem d_M_use_122 : decode b_M_use 122 = .ok (.getfield 19, 3) := by decide +kernel
theorem d_M_use_125 : decode b_M_use 125 = .ok (.iload_n 1, 1) := by decide +kernel
theorem d_M_use_126 : decode b_M_use 126 = .ok (.laload, 1) := by decide +kernel
theorem d_M_use_127 : decode b_M_use 127 = .ok (.lastore, 1) := by decide +kernel
theorem d_M_use_128 : decode b_M_use 128 = .ok (.aload_n 0, 1) := by decide +kernel
theorem d_M_use_129 : decode b_M_use 129 = .ok (.getfield 30, 3) := by decide +kernel
theorem d_M_use_132 : decode b_M_use 132 = .ok (.iload_n 1, 1) := by decide +kernel
theorem d_M_use_133 : decode b_M_use 133 = .ok (.dup2, 1) := by decide +kernel
theorem d_M_use_134 : decode b_M_use 134 = .ok (.iaload, 1) := by decide +kernel
theorem d_M_use_135 : decode b_M_use 135 = .ok (.iconst 1, 1) := by decide +kernel
theorem d_M_use_136 : decode b_M_use 136 = .ok (.iadd, 1) := by decide +kernel
theorem d_M_use_137 : decode b_M_use 137 = .ok (.iastore, 1) := by decide +kernel
theorem d_M_use_138 : decode b_M_use 138 = .ok (.aload_n 0, 1) := by decide +kernel
theorem d_M_use_139 : decode b_M_use 139 = .ok (.iload_n 1, 1) := by decide +kernel
theorem d_M_use_140 : decode b_M_use 140 = .ok (.invokevirtual 110, 3) := by decide +kernel
theorem d_M_use_143 : decode b_M_use 143 = .ok (.ifCond .ne 7, 3) := by decide +kernel
theorem d_M_use_146 : decode b_M_use 146 = .ok (.iconst 1, 1) := by decide +kernel
theorem d_M_use_147 : decode b_M_use 147 = .ok (.goto 4, 3) := by decide +kernel
theorem d_M_use_150 : decode b_M_use 150 = .ok (.iconst 0, 1) := by decide +kernel
theorem d_M_use_151 : decode b_M_use 151 = .ok (.ireturn, 1) := by decide +kernel
theorem d_M_grind_0 : decode b_M_grind 0 = .ok (.aload_n 0, 1) := by decide +kernel
theorem d_M_grind_1 : decode b_M_grind 1 = .ok (.aload_n 0, 1) := by decide +kernel
theorem d_M_grind_2 : decode b_M_grind 2 = .ok (.iload_n 1, 1) := by decide +kernel
theorem d_M_grind_3 : decode b_M_grind 3 = .ok (.invokevirtual 105, 3) := by decide +kernel
theorem d_M_grind_6 : decode b_M_grind 6 = .ok (.ifCond .eq 7, 3) := by decide +kernel
theorem d_M_grind_9 : decode b_M_grind 9 = .ok (.iconst 1, 1) := by decide +kernel
theorem d_M_grind_10 : decode b_M_grind 10 = .ok (.goto 33, 3) := by decide +kernel
theorem d_M_grind_13 : decode b_M_grind 13 = .ok (.iload_n 2, 1) := by decide +kernel
theorem d_M_grind_14 : decode b_M_grind 14 = .ok (.i2l, 1) := by decide +kernel
theorem d_M_grind_15 : decode b_M_grind 15 = .ok (.lconst 1, 1) := by decide +kernel
theorem d_M_grind_16 : decode b_M_grind 16 = .ok (.ldc2_w 39, 3) := by decide +kernel
theorem d_M_grind_19 : decode b_M_grind 19 = .ok (.invokestatic 98, 3) := by decide +kernel
theorem d_M_grind_22 : decode b_M_grind 22 = .ok (.ifCond .ne 7, 3) := by decide +kernel
theorem d_M_grind_25 : decode b_M_grind 25 = .ok (.iconst 2, 1) := by decide +kernel
theorem d_M_grind_26 : decode b_M_grind 26 = .ok (.goto 17, 3) := by decide +kernel
theorem d_M_grind_29 : decode b_M_grind 29 = .ok (.aload_n 0, 1) := by decide +kernel
theorem d_M_grind_30 : decode b_M_grind 30 = .ok (.getfield 23, 3) := by decide +kernel
theorem d_M_grind_33 : decode b_M_grind 33 = .ok (.iload_n 1, 1) := by decide +kernel
theorem d_M_grind_34 : decode b_M_grind 34 = .ok (.baload, 1) := by decide +kernel
theorem d_M_grind_35 : decode b_M_grind 35 = .ok (.ifCond .eq 7, 3) := by decide +kernel
theorem d_M_grind_38 : decode b_M_grind 38 = .ok (.iconst 3, 1) := by decide +kernel
theorem d_M_grind_39 : decode b_M_grind 39 = .ok (.goto 4, 3) := by decide +kernel
theorem d_M_grind_42 : decode b_M_grind 42 = .ok (.iconst 0, 1) := by decide +kernel
theorem d_M_grind_43 : decode b_M_grind 43 = .ok (.putfield 88, 3) := by decide +kernel
theorem d_M_grind_46 : decode b_M_grind 46 = .ok (.aload_n 0, 1) := by decide +kernel
theorem d_M_grind_47 : decode b_M_grind 47 = .ok (.getfield 88, 3) := by decide +kernel
theorem d_M_grind_50 : decode b_M_grind 50 = .ok (.ifCond .le 5, 3) := by decide +kernel
theorem d_M_grind_53 : decode b_M_grind 53 = .ok (.iconst 0, 1) := by decide +kernel
theorem d_M_grind_54 : decode b_M_grind 54 = .ok (.ireturn, 1) := by decide +kernel
theorem d_M_grind_55 : decode b_M_grind 55 = .ok (.aload_n 0, 1) := by decide +kernel
theorem d_M_grind_56 : decode b_M_grind 56 = .ok (.getfield 13, 3) := by decide +kernel
theorem d_M_grind_59 : decode b_M_grind 59 = .ok (.iload_n 1, 1) := by decide +kernel
theorem d_M_grind_60 : decode b_M_grind 60 = .ok (.iaload, 1) := by decide +kernel
theorem d_M_grind_61 : decode b_M_grind 61 = .ok (.iload_n 2, 1) := by decide +kernel
theorem d_M_grind_62 : decode b_M_grind 62 = .ok (.isub, 1) := by decide +kernel
theorem d_M_grind_63 : decode b_M_grind 63 = .ok (.aload_n 0, 1) := by decide +kernel
theorem d_M_grind_64 : decode b_M_grind 64 = .ok (.getfield 16, 3) := by decide +kernel
theorem d_M_grind_67 : decode b_M_grind 67 = .ok (.iload_n 1, 1) := by decide +kernel
theorem d_M_grind_68 : decode b_M_grind 68 = .ok (.iaload, 1) := by decide +kernel
theorem d_M_grind_69 : decode b_M_grind 69 = .ok (.if_icmp .ge 12, 3) := by decide +kernel
theorem d_M_grind_72 : decode b_M_grind 72 = .ok (.aload_n 0, 1) := by decide +kernel
theorem d_M_grind_73 : decode b_M_grind 73 = .ok (.getfield 23, 3) := by decide +kernel
theorem d_M_grind_76 : decode b_M_grind 76 = .ok (.iload_n 1, 1) := by decide +kernel
theorem d_M_grind_77 : decode b_M_grind 77 = .ok (.iconst 1, 1) := by decide +kernel
theorem d_M_grind_78 : decode b_M_grind 78 = .ok (.bastore, 1) := by decide +kernel
theorem d_M_grind_79 : decode b_M_grind 79 = .ok (.iconst 0, 1) := by decide +kernel
theorem d_M_grind_80 : decode b_M_grind 80 = .ok (.ireturn, 1) := by decide +kernel
theorem d_M_grind_81 : decode b_M_grind 81 = .ok (.aload_n 0, 1) := by decide +kernel
theorem d_M_grind_82 : decode b_M_grind 82 = .ok (.getfield 13, 3) := by decide +kernel
theorem d_M_grind_85 : decode b_M_grind 85 = .ok (.iload_n 1, 1) := by decide +kernel
theorem d_M_grind_86 : decode b_M_grind 86 = .ok (.aload_n 0, 1) := by decide +kernel
theorem d_M_grind_87 : decode b_M_grind 87 = .ok (.getfield 13, 3) := by decide +kernel
theorem d_M_grind_90 : decode b_M_grind 90 = .ok (.iload_n 1, 1) := by decide +kernel
theorem d_M_grind_91 : decode b_M_grind 91 = .ok (.iaload, 1) := by decide +kernel
theorem d_M_grind_92 : decode b_M_grind 92 = .ok (.iload_n 2, 1) := by decide +kernel
theorem d_M_grind_93 : decode b_M_grind 93 = .ok (.isub, 1) := by decide +kernel
theorem d_M_grind_94 : decode b_M_grind 94 = .ok (.iastore, 1) := by decide +kernel
theorem d_M_grind_95 : decode b_M_grind 95 = .ok (.aload_n 0, 1) := by decide +kernel
theorem d_M_grind_96 : decode b_M_grind 96 = .ok (.getfield 19, 3) := by decide +kernel
theorem d_M_grind_99 : decode b_M_grind 99 = .ok (.iload_n 1, 1) := by decide +kernel
theorem d_M_grind_100 : decode b_M_grind 100 = .ok (.lconst 0, 1) := by decide +kernel
theorem d_M_grind_101 : decode b_M_grind 101 = .ok (.lastore, 1) := by decide +kernel
theorem d_M_grind_102 : decode b_M_grind 102 = .ok (.aload_n 0, 1) := by decide +kernel
theorem d_M_grind_103 : decode b_M_grind 103 = .ok (.getfield 33, 3) := by decide +kernel
theorem d_M_grind_106 : decode b_M_grind 106 = .ok (.iload_n 1, 1) := by decide +kernel
theorem d_M_grind_107 : decode b_M_grind 107 = .ok (.dup2, 1) := by decide +kernel
theorem d_M_grind_108 : decode b_M_grind 108 = .ok (.iaload, 1) := by decide +kernel
theorem d_M_grind_109 : decode b_M_grind 109 = .ok (.iconst 1, 1) := by decide +kernel
theorem d_M_grind_110 : decode b_M_grind 110 = .ok (.iadd, 1) := by decide +kernel
theorem d_M_grind_111 : decode b_M_grind 111 = .ok (.iastore, 1) := by decide +kernel
theorem d_M_grind_112 : decode b_M_grind 112 = .ok (.iconst 1, 1) := by decide +kernel
theorem d_M_grind_113 : decode b_M_grind 113 = .ok (.ireturn, 1) := by decide +kernel
theorem d_M_about_0 : decode b_M_about 0 = .ok (.aload_n 0, 1) := by decide +kernel
theorem d_M_about_1 : decode b_M_about 1 = .ok (.aload_n 0, 1) := by decide +kernel
theorem d_M_about_2 : decode b_M_about 2 = .ok (.iload_n 1, 1) := by decide +kernel
theorem d_M_about_3 : decode b_M_about 3 = .ok (.invokevirtual 105, 3) := by decide +kernel
theorem d_M_about_6 : decode b_M_about 6 = .ok (.ifCond .ne 15, 3) := by decide +kernel
theorem d_M_about_9 : decode b_M_about 9 = .ok (.iload_n 2, 1) := by decide +kernel
theorem d_M_about_10 : decode b_M_about 10 = .ok (.i2l, 1) := by decide +kernel
theorem d_M_about_11 : decode b_M_about 11 = .ok (.lconst 0, 1) := by decide +kernel
theorem d_M_about_12 : decode b_M_about 12 = .ok (.ldc2_w 113, 3) := by decide +kernel
theorem d_M_about_15 : decode b_M_about 15 = .ok (.invokestatic 98, 3) := by decide +kernel
theorem d_M_about_18 : decode b_M_about 18 = .ok (.ifCond .ne 7, 3) := by decide +kernel
theorem d_M_about_21 : decode b_M_about 21 = .ok (.iconst 1, 1) := by decide +kernel
theorem d_M_about_22 : decode b_M_about 22 = .ok (.goto 4, 3) := by decide +kernel
theorem d_M_about_25 : decode b_M_about 25 = .ok (.iconst 0, 1) := by decide +kernel
theorem d_M_about_26 : decode b_M_about 26 = .ok (.putfield 88, 3) := by decide +kernel
theorem d_M_about_29 : decode b_M_about 29 = .ok (.aload_n 0, 1) := by decide +kernel
theorem d_M_about_30 : decode b_M_about 30 = .ok (.getfield 88, 3) := by decide +kernel
theorem d_M_about_33 : decode b_M_about 33 = .ok (.ifCond .le 5, 3) := by decide +kernel
theorem d_M_about_36 : decode b_M_about 36 = .ok (.lconst 0, 1) := by decide +kernel
theorem d_M_about_37 : decode b_M_about 37 = .ok (.lreturn, 1) := by decide +kernel
theorem d_M_about_38 : decode b_M_about 38 = .ok (.iload_n 2, 1) := by decide +kernel
theorem d_M_about_39 : decode b_M_about 39 = .ok (.iconst 3, 1) := by decide +kernel
theorem d_M_about_40 : decode b_M_about 40 = .ok (.if_icmp .ge 39, 3) := by decide +kernel
theorem d_M_about_43 : decode b_M_about 43 = .ok (.iload_n 2, 1) := by decide +kernel
theorem d_M_about_44 : decode b_M_about 44 = .ok (.ifCond .ne 12, 3) := by decide +kernel
theorem d_M_about_47 : decode b_M_about 47 = .ok (.aload_n 0, 1) := by decide +kernel
theorem d_M_about_48 : decode b_M_about 48 = .ok (.getfield 19, 3) := by decide +kernel
theorem d_M_about_51 : decode b_M_about 51 = .ok (.iload_n 1, 1) := by decide +kernel
theorem d_M_about_52 : decode b_M_about 52 = .ok (.laload, 1) := by decide +kernel
theorem d_M_about_53 : decode b_M_about 53 = .ok (.goto 25, 3) := by decide +kernel
theorem d_M_about_56 : decode b_M_about 56 = .ok (.iload_n 2, 1) := by decide +kernel
theorem d_M_about_57 : decode b_M_about 57 = .ok (.iconst 1, 1) := by decide +kernel
theorem d_M_about_58 : decode b_M_about 58 = .ok (.if_icmp .ne 13, 3) := by decide +kernel
theorem d_M_about_61 : decode b_M_about 61 = .ok (.aload_n 0, 1) := by decide +kernel
theorem d_M_about_62 : decode b_M_about 62 = .ok (.getfield 13, 3) := by decide +kernel
theorem d_M_about_65 : decode b_M_about 65 = .ok (.iload_n 1, 1) := by decide +kernel
theorem d_M_about_66 : decode b_M_about 66 = .ok (.iaload, 1) := by decide +kernel
theorem d_M_about_67 : decode b_M_about 67 = .ok (.i2l, 1) := by decide +kernel
theorem d_M_about_68 : decode b_M_about 68 = .ok (.goto 10, 3) := by decide +kernel
theorem d_M_about_71 : decode b_M_about 71 = .ok (.aload_n 0, 1) := by decide +kernel
theorem d_M_about_72 : decode b_M_about 72 = .ok (.getfield 7, 3) := by decide +kernel
theorem d_M_about_75 : decode b_M_about 75 = .ok (.iload_n 1, 1) := by decide +kernel
theorem d_M_about_76 : decode b_M_about 76 = .ok (.iaload, 1) := by decide +kernel
theorem d_M_about_77 : decode b_M_about 77 = .ok (.i2l, 1) := by decide +kernel
theorem d_M_about_78 : decode b_M_about 78 = .ok (.lreturn, 1) := by decide +kernel
theorem d_M_about_79 : decode b_M_about 79 = .ok (.iload_n 2, 1) := by decide +kernel
theorem d_M_about_80 : decode b_M_about 80 = .ok (.iconst 3, 1) := by decide +kernel
theorem d_M_about_81 : decode b_M_about 81 = .ok (.if_icmp .ne 50, 3) := by decide +kernel
theorem d_M_about_84 : decode b_M_about 84 = .ok (.aload_n 0, 1) := by decide +kernel
theorem d_M_about_85 : decode b_M_about 85 = .ok (.getfield 23, 3) := by decide +kernel
theorem d_M_about_88 : decode b_M_about 88 = .ok (.iload_n 1, 1) := by decide +kernel
theorem d_M_about_89 : decode b_M_about 89 = .ok (.baload, 1) := by decide +kernel
theorem d_M_about_90 : decode b_M_about 90 = .ok (.ifCond .eq 7, 3) := by decide +kernel
theorem d_M_about_93 : decode b_M_about 93 = .ok (.iconst 1, 1) := by decide +kernel
theorem d_M_about_94 : decode b_M_about 94 = .ok (.goto 4, 3) := by decide +kernel
theorem d_M_about_97 : decode b_M_about 97 = .ok (.iconst 0, 1) := by decide +kernel
theorem d_M_about_98 : decode b_M_about 98 = .ok (.aload_n 0, 1) := by decide +kernel
theorem d_M_about_99 : decode b_M_about 99 = .ok (.iload_n 1, 1) := by decide +kernel
theorem d_M_about_100 : decode b_M_about 100 = .ok (.invokevirtual 110, 3) := by decide +kernel
theorem d_M_about_103 : decode b_M_about 103 = .ok (.ifCond .eq 7, 3) := by decide +kernel
theorem d_M_about_106 : decode b_M_about 106 = .ok (.iconst 2, 1) := by decide +kernel
theorem d_M_about_107 : decode b_M_about 107 = .ok (.goto 4, 3) := by decide +kernel
theorem d_M_about_110 : decode b_M_about 110 = .ok (.iconst 0, 1) := by decide +kernel
theorem d_M_about_111 : decode b_M_about 111 = .ok (.iadd, 1) := by decide +kernel
theorem d_M_about_112 : decode b_M_about 112 = .ok (.aload_n 0, 1) := by decide +kernel
theorem d_M_about_113 : decode b_M_about 113 = .ok (.getfield 27, 3) := by decide +kernel
theorem d_M_about_116 : decode b_M_about 116 = .ok (.iload_n 1, 1) := by decide +kernel
theorem d_M_about_117 : decode b_M_about 117 = .ok (.baload, 1) := by decide +kernel
theorem d_M_about_118 : decode b_M_about 118 = .ok (.ifCond .eq 7, 3) := by decide +kernel
theorem d_M_about_121 : decode b_M_about 121 = .ok (.iconst 4, 1) := by decide +kernel
theorem d_M_about_122 : decode b_M_about 122 = .ok (.goto 4, 3) := by decide +kernel
theorem d_M_about_125 : decode b_M_about 125 = .ok (.iconst 0, 1) := by decide +kernel
theorem d_M_about_126 : decode b_M_about 126 = .ok (.iadd, 1) := by decide +kernel
theorem d_M_about_127 : decode b_M_about 127 = .ok (.i2l, 1) := by decide +kernel
theorem d_M_about_128 : decode b_M_about 128 = .ok (.goto 25, 3) := by decide +kernel
theorem d_M_about_131 : decode b_M_about 131 = .ok (.iload_n 2, 1) := by decide +kernel
theorem d_M_about_132 : decode b_M_about 132 = .ok (.iconst 4, 1) := by decide +kernel
theorem d_M_about_133 : decode b_M_about 133 = .ok (.if_icmp .ne 13, 3) := by decide +kernel
theorem d_M_about_136 : decode b_M_about 136 = .ok (.aload_n 0, 1) := by decide +kernel
theorem d_M_about_137 : decode b_M_about 137 = .ok (.getfield 30, 3) := by decide +kernel
theorem d_M_about_140 : decode b_M_about 140 = .ok (.iload_n 1, 1) := by decide +kernel
theorem d_M_about_141 : decode b_M_about 141 = .ok (.iaload, 1) := by decide +kernel
theorem d_M_about_142 : decode b_M_about 142 = .ok (.i2l, 1) := by decide +kernel
theorem d_M_about_143 : decode b_M_about 143 = .ok (.goto 10, 3) := by decide +kernel
theorem d_M_about_146 : decode b_M_about 146 = .ok (.aload_n 0, 1) := by decide +kernel
theorem d_M_about_147 : decode b_M_about 147 = .ok (.getfield 33, 3) := by decide +kernel
theorem d_M_about_150 : decode b_M_about 150 = .ok (.iload_n 1, 1) := by decide +kernel
theorem d_M_about_151 : decode b_M_about 151 = .ok (.iaload, 1) := by decide +kernel
theorem d_M_about_152 : decode b_M_about 152 = .ok (.i2l, 1) := by decide +kernel
theorem d_M_about_153 : decode b_M_about 153 = .ok (.lreturn, 1) := by decide +kernel
theorem d_M_isSpare_0 : decode b_M_isSpare 0 = .ok (.aload_n 0, 1) := by decide +kernel
theorem d_M_isSpare_1 : decode b_M_isSpare 1 = .ok (.getfield 7, 3) := by decide +kernel
theorem d_M_isSpare_4 : decode b_M_isSpare 4 = .ok (.iload_n 1, 1) := by decide +kernel
theorem d_M_isSpare_5 : decode b_M_isSpare 5 = .ok (.iaload, 1) := by decide +kernel
theorem d_M_isSpare_6 : decode b_M_isSpare 6 = .ok (.iload_n 2, 1) := by decide +kernel
theorem d_M_isSpare_7 : decode b_M_isSpare 7 = .ok (.if_icmp .ne 36, 3) := by decide +kernel
theorem d_M_isSpare_10 : decode b_M_isSpare 10 = .ok (.aload_n 0, 1) := by decide +kernel
theorem d_M_isSpare_11 : decode b_M_isSpare 11 = .ok (.getfield 23, 3) := by decide +kernel
theorem d_M_isSpare_14 : decode b_M_isSpare 14 = .ok (.iload_n 1, 1) := by decide +kernel
theorem d_M_isSpare_15 : decode b_M_isSpare 15 = .ok (.baload, 1) := by decide +kernel
theorem d_M_isSpare_16 : decode b_M_isSpare 16 = .ok (.ifCond .ne 27, 3) := by decide +kernel
theorem d_M_isSpare_19 : decode b_M_isSpare 19 = .ok (.aload_n 0, 1) := by decide +kernel
theorem d_M_isSpare_20 : decode b_M_isSpare 20 = .ok (.getfield 19, 3) := by decide +kernel
theorem d_M_isSpare_23 : decode b_M_isSpare 23 = .ok (.iload_n 1, 1) := by decide +kernel
theorem d_M_isSpare_24 : decode b_M_isSpare 24 = .ok (.laload, 1) := by decide +kernel
theorem d_M_isSpare_25 : decode b_M_isSpare 25 = .ok (.lconst 0, 1) := by decide +kernel
theorem d_M_isSpare_26 : decode b_M_isSpare 26 = .ok (.lcmp, 1) := by decide +kernel
theorem d_M_isSpare_27 : decode b_M_isSpare 27 = .ok (.ifCond .ne 16, 3) := by decide +kernel
theorem d_M_isSpare_30 : decode b_M_isSpare 30 = .ok (.aload_n 0, 1) := by decide +kernel
theorem d_M_isSpare_31 : decode b_M_isSpare 31 = .ok (.getfield 27, 3) := by decide +kernel
theorem d_M_isSpare_34 : decode b_M_isSpare 34 = .ok (.iload_n 1, 1) := by decide +kernel
theorem d_M_isSpare_35 : decode b_M_isSpare 35 = .ok (.baload, 1) := by decide +kernel
theorem d_M_isSpare_36 : decode b_M_isSpare 36 = .ok (.ifCond .ne 7, 3) := by decide +kernel
theorem d_M_isSpare_39 : decode b_M_isSpare 39 = .ok (.iconst 1, 1) := by decide +kernel
theorem d_M_isSpare_40 : decode b_M_isSpare 40 = .ok (.goto 4, 3) := by decide +kernel
theorem d_M_isSpare_43 : decode b_M_isSpare 43 = .ok (.iconst 0, 1) := by decide +kernel
theorem d_M_isSpare_44 : decode b_M_isSpare 44 = .ok (.ireturn, 1) := by decide +kernel
theorem d_M_spare_0 : decode b_M_spare 0 = .ok (.aload_n 0, 1) := by decide +kernel
theorem d_M_spare_1 : decode b_M_spare 1 = .ok (.iload_n 1, 1) := by decide +kernel
theorem d_M_spare_2 : decode b_M_spare 2 = .ok (.invokestatic 94, 3) := by decide +kernel
theorem d_M_spare_5 : decode b_M_spare 5 = .ok (.ifCond .eq 7, 3) := by decide +kernel
theorem d_M_spare_8 : decode b_M_spare 8 = .ok (.iconst 0, 1) := by decide +kernel
theorem d_M_spare_9 : decode b_M_spare 9 = .ok (.goto 4, 3) := by decide +kernel
theorem d_M_spare_12 : decode b_M_spare 12 = .ok (.iconst 1, 1) := by decide +kernel
theorem d_M_spare_13 : decode b_M_spare 13 = .ok (.putfield 88, 3) := by decide +kernel
theorem d_M_spare_16 : decode b_M_spare 16 = .ok (.iconst 0, 1) := by decide +kernel
theorem d_M_spare_17 : decode b_M_spare 17 = .ok (.istore_n 2, 1) := by decide +kernel
theorem d_M_spare_18 : decode b_M_spare 18 = .ok (.iconst 0, 1) := by decide +kernel
theorem d_M_spare_19 : decode b_M_spare 19 = .ok (.istore_n 3, 1) := by decide +kernel
theorem d_M_spare_20 : decode b_M_spare 20 = .ok (.iload_n 3, 1) := by decide +kernel
theorem d_M_spare_21 : decode b_M_spare 21 = .ok (.aload_n 0, 1) := by decide +kernel
theorem d_M_spare_22 : decode b_M_spare 22 = .ok (.getfield 91, 3) := by decide +kernel
theorem d_M_spare_25 : decode b_M_spare 25 = .ok (.if_icmp .ge 33, 3) := by decide +kernel
theorem d_M_spare_28 : decode b_M_spare 28 = .ok (.aload_n 0, 1) := by decide +kernel
theorem d_M_spare_29 : decode b_M_spare 29 = .ok (.getfield 88, 3) := by decide +kernel
theorem d_M_spare_32 : decode b_M_spare 32 = .ok (.ifCond .ne 26, 3) := by decide +kernel
theorem d_M_spare_35 : decode b_M_spare 35 = .ok (.aload_n 0, 1) := by decide +kernel
theorem d_M_spare_36 : decode b_M_spare 36 = .ok (.iload_n 3, 1) := by decide +kernel
theorem d_M_spare_37 : decode b_M_spare 37 = .ok (.iload_n 1, 1) := by decide +kernel
theorem d_M_spare_38 : decode b_M_spare 38 = .ok (.invokevirtual 115, 3) := by decide +kernel
theorem d_M_spare_41 : decode b_M_spare 41 = .ok (.ifCond .eq 9, 3) := by decide +kernel
theorem d_M_spare_44 : decode b_M_spare 44 = .ok (.iload_n 2, 1) := by decide +kernel
theorem d_M_spare_45 : decode b_M_spare 45 = .ok (.iconst 1, 1) := by decide +kernel
theorem d_M_spare_46 : decode b_M_spare 46 = .ok (.iadd, 1) := by decide +kernel
theorem d_M_spare_47 : decode b_M_spare 47 = .ok (.goto 4, 3) := by decide +kernel
theorem d_M_spare_50 : decode b_M_spare 50 = .ok (.iload_n 2, 1) := by decide +kernel
theorem d_M_spare_51 : decode b_M_spare 51 = .ok (.istore_n 2, 1) := by decide +kernel
theorem d_M_spare_52 : decode b_M_spare 52 = .ok (.iinc 3 1, 3) := by decide +kernel
theorem d_M_spare_55 : decode b_M_spare 55 = .ok (.goto (-35), 3) := by decide +kernel
theorem d_M_spare_58 : decode b_M_spare 58 = .ok (.iload_n 2, 1) := by decide +kernel
theorem d_M_spare_59 : decode b_M_spare 59 = .ok (.ireturn, 1) := by decide +kernel
theorem d_M_take_0 : decode b_M_take 0 = .ok (.aload_n 0, 1) := by decide +kernel
theorem d_M_take_1 : decode b_M_take 1 = .ok (.iload_n 1, 1) := by decide +kernel
theorem d_M_take_2 : decode b_M_take 2 = .ok (.invokestatic 94, 3) := by decide +kernel
theorem d_M_take_5 : decode b_M_take 5 = .ok (.ifCond .eq 7, 3) := by decide +kernel
theorem d_M_take_8 : decode b_M_take 8 = .ok (.iconst 0, 1) := by decide +kernel
theorem d_M_take_9 : decode b_M_take 9 = .ok (.goto 4, 3) := by decide +kernel
theorem d_M_take_12 : decode b_M_take 12 = .ok (.iconst 1, 1) := by decide +kernel
theorem d_M_take_13 : decode b_M_take 13 = .ok (.putfield 88, 3) := by decide +kernel
theorem d_M_take_16 : decode b_M_take 16 = .ok (.iconst (-1), 1) := by decide +kernel
theorem d_M_take_17 : decode b_M_take 17 = .ok (.istore_n 2, 1) := by decide +kernel
theorem d_M_take_18 : decode b_M_take 18 = .ok (.iconst 0, 1) := by decide +kernel
theorem d_M_take_19 : decode b_M_take 19 = .ok (.istore_n 3, 1) := by decide +kernel
theorem d_M_take_20 : decode b_M_take 20 = .ok (.iload_n 3, 1) := by decide +kernel
theorem d_M_take_21 : decode b_M_take 21 = .ok (.aload_n 0, 1) := by decide +kernel
theorem d_M_take_22 : decode b_M_take 22 = .ok (.getfield 91, 3) := by decide +kernel
theorem d_M_take_25 : decode b_M_take 25 = .ok (.if_icmp .ge 51, 3) := by decide +kernel
theorem d_M_take_28 : decode b_M_take 28 = .ok (.aload_n 0, 1) := by decide +kernel
theorem d_M_take_29 : decode b_M_take 29 = .ok (.getfield 88, 3) := by decide +kernel
theorem d_M_take_32 : decode b_M_take 32 = .ok (.ifCond .ne 44, 3) := by decide +kernel
theorem d_M_take_35 : decode b_M_take 35 = .ok (.aload_n 0, 1) := by decide +kernel
theorem d_M_take_36 : decode b_M_take 36 = .ok (.iload_n 3, 1) := by decide +kernel
theorem d_M_take_37 : decode b_M_take 37 = .ok (.iload_n 1, 1) := by decide +kernel
theorem d_M_take_38 : decode b_M_take 38 = .ok (.invokevirtual 115, 3) := by decide +kernel
theorem d_M_take_41 : decode b_M_take 41 = .ok (.ifCond .eq 27, 3) := by decide +kernel
theorem d_M_take_44 : decode b_M_take 44 = .ok (.iload_n 2, 1) := by decide +kernel
theorem d_M_take_45 : decode b_M_take 45 = .ok (.iconst (-1), 1) := by decide +kernel
theorem d_M_take_46 : decode b_M_take 46 = .ok (.if_icmp .eq 18, 3) := by decide +kernel
theorem d_M_take_49 : decode b_M_take 49 = .ok (.aload_n 0, 1) := by decide +kernel
theorem d_M_take_50 : decode b_M_take 50 = .ok (.getfield 13, 3) := by decide +kernel
theorem d_M_take_53 : decode b_M_take 53 = .ok (.iload_n 3, 1) := by decide +kernel
theorem d_M_take_54 : decode b_M_take 54 = .ok (.iaload, 1) := by decide +kernel
theorem d_M_take_55 : decode b_M_take 55 = .ok (.aload_n 0, 1) := by decide +kernel
theorem d_M_take_56 : decode b_M_take 56 = .ok (.getfield 13, 3) := by decide +kernel
theorem d_M_take_59 : decode b_M_take 59 = .ok (.iload_n 2, 1) := by decide +kernel
theorem d_M_take_60 : decode b_M_take 60 = .ok (.iaload, 1) := by decide +kernel
theorem d_M_take_61 : decode b_M_take 61 = .ok (.if_icmp .ge 7, 3) := by decide +kernel
theorem d_M_take_64 : decode b_M_take 64 = .ok (.iload_n 3, 1) := by decide +kernel
theorem d_M_take_65 : decode b_M_take 65 = .ok (.goto 4, 3) := by decide +kernel
theorem d_M_take_68 : decode b_M_take 68 = .ok (.iload_n 2, 1) := by decide +kernel
theorem d_M_take_69 : decode b_M_take 69 = .ok (.istore_n 2, 1) := by decide +kernel
theorem d_M_take_70 : decode b_M_take 70 = .ok (.iinc 3 1, 3) := by decide +kernel
theorem d_M_take_73 : decode b_M_take 73 = .ok (.goto (-53), 3) := by decide +kernel
theorem d_M_take_76 : decode b_M_take 76 = .ok (.iload_n 2, 1) := by decide +kernel
theorem d_M_take_77 : decode b_M_take 77 = .ok (.iconst (-1), 1) := by decide +kernel
theorem d_M_take_78 : decode b_M_take 78 = .ok (.if_icmp .eq 10, 3) := by decide +kernel
theorem d_M_take_81 : decode b_M_take 81 = .ok (.aload_n 0, 1) := by decide +kernel
theorem d_M_take_82 : decode b_M_take 82 = .ok (.getfield 27, 3) := by decide +kernel
theorem d_M_take_85 : decode b_M_take 85 = .ok (.iload_n 2, 1) := by decide +kernel
theorem d_M_take_86 : decode b_M_take 86 = .ok (.iconst 1, 1) := by decide +kernel
theorem d_M_take_87 : decode b_M_take 87 = .ok (.bastore, 1) := by decide +kernel
theorem d_M_take_88 : decode b_M_take 88 = .ok (.aload_n 0, 1) := by decide +kernel
theorem d_M_take_89 : decode b_M_take 89 = .ok (.getfield 88, 3) := by decide +kernel
theorem d_M_take_92 : decode b_M_take 92 = .ok (.ifCond .le 7, 3) := by decide +kernel
theorem d_M_take_95 : decode b_M_take 95 = .ok (.iconst 0, 1) := by decide +kernel
theorem d_M_take_96 : decode b_M_take 96 = .ok (.goto 4, 3) := by decide +kernel
theorem d_M_take_99 : decode b_M_take 99 = .ok (.iload_n 2, 1) := by decide +kernel
theorem d_M_take_100 : decode b_M_take 100 = .ok (.ireturn, 1) := by decide +kernel
theorem d_M_bring_0 : decode b_M_bring 0 = .ok (.aload_n 0, 1) := by decide +kernel
theorem d_M_bring_1 : decode b_M_bring 1 = .ok (.aload_n 0, 1) := by decide +kernel
theorem d_M_bring_2 : decode b_M_bring 2 = .ok (.iload_n 1, 1) := by decide +kernel
theorem d_M_bring_3 : decode b_M_bring 3 = .ok (.invokevirtual 105, 3) := by decide +kernel
theorem d_M_bring_6 : decode b_M_bring 6 = .ok (.ifCond .eq 7, 3) := by decide +kernel
theorem d_M_bring_9 : decode b_M_bring 9 = .ok (.iconst 1, 1) := by decide +kernel
theorem d_M_bring_10 : decode b_M_bring 10 = .ok (.goto 4, 3) := by decide +kernel
theorem d_M_bring_13 : decode b_M_bring 13 = .ok (.iconst 0, 1) := by decide +kernel
theorem d_M_bring_14 : decode b_M_bring 14 = .ok (.putfield 88, 3) := by decide +kernel
theorem d_M_bring_17 : decode b_M_bring 17 = .ok (.aload_n 0, 1) := by decide +kernel
theorem d_M_bring_18 : decode b_M_bring 18 = .ok (.getfield 88, 3) := by decide +kernel
theorem d_M_bring_21 : decode b_M_bring 21 = .ok (.ifCond .le 5, 3) := by decide +kernel
theorem d_M_bring_24 : decode b_M_bring 24 = .ok (.iconst 0, 1) := by decide +kernel
theorem d_M_bring_25 : decode b_M_bring 25 = .ok (.ireturn, 1) := by decide +kernel
theorem d_M_bring_26 : decode b_M_bring 26 = .ok (.aload_n 0, 1) := by decide +kernel
theorem d_M_bring_27 : decode b_M_bring 27 = .ok (.getfield 27, 3) := by decide +kernel
theorem d_M_bring_30 : decode b_M_bring 30 = .ok (.iload_n 1, 1) := by decide +kernel
theorem d_M_bring_31 : decode b_M_bring 31 = .ok (.baload, 1) := by decide +kernel
theorem d_M_bring_32 : decode b_M_bring 32 = .ok (.istore_n 2, 1) := by decide +kernel
theorem d_M_bring_33 : decode b_M_bring 33 = .ok (.aload_n 0, 1) := by decide +kernel
theorem d_M_bring_34 : decode b_M_bring 34 = .ok (.getfield 27, 3) := by decide +kernel
theorem d_M_bring_37 : decode b_M_bring 37 = .ok (.iload_n 1, 1) := by decide +kernel
theorem d_M_bring_38 : decode b_M_bring 38 = .ok (.iconst 0, 1) := by decide +kernel
theorem d_M_bring_39 : decode b_M_bring 39 = .ok (.bastore, 1) := by decide +kernel
theorem d_M_bring_40 : decode b_M_bring 40 = .ok (.iload_n 2, 1) := by decide +kernel
theorem d_M_bring_41 : decode b_M_bring 41 = .ok (.ireturn, 1) := by decide +kernel
theorem d_M_life_0 : decode b_M_life 0 = .ok (.aload_n 0, 1) := by decide +kernel
theorem d_M_life_1 : decode b_M_life 1 = .ok (.iload_n 1, 1) := by decide +kernel
theorem d_M_life_2 : decode b_M_life 2 = .ok (.invokestatic 94, 3) := by decide +kernel
theorem d_M_life_5 : decode b_M_life 5 = .ok (.ifCond .ne 7, 3) := by decide +kernel
theorem d_M_life_8 : decode b_M_life 8 = .ok (.iconst 1, 1) := by decide +kernel
theorem d_M_life_9 : decode b_M_life 9 = .ok (.goto 35, 3) := by decide +kernel
theorem d_M_life_12 : decode b_M_life 12 = .ok (.iload_n 2, 1) := by decide +kernel
theorem d_M_life_13 : decode b_M_life 13 = .ok (.i2l, 1) := by decide +kernel
theorem d_M_life_14 : decode b_M_life 14 = .ok (.lconst 1, 1) := by decide +kernel
theorem d_M_life_15 : decode b_M_life 15 = .ok (.ldc2_w 119, 3) := by decide +kernel
theorem d_M_life_18 : decode b_M_life 18 = .ok (.invokestatic 98, 3) := by decide +kernel
theorem d_M_life_21 : decode b_M_life 21 = .ok (.ifCond .ne 7, 3) := by decide +kernel
theorem d_M_life_24 : decode b_M_life 24 = .ok (.iconst 2, 1) := by decide +kernel
theorem d_M_life_25 : decode b_M_life 25 = .ok (.goto 19, 3) := by decide +kernel
theorem d_M_life_28 : decode b_M_life 28 = .ok (.aload_n 0, 1) := by decide +kernel
theorem d_M_life_29 : decode b_M_life 29 = .ok (.getfield 47, 3) := by decide +kernel
theorem d_M_life_32 : decode b_M_life 32 = .ok (.iload_n 1, 1) := by decide +kernel
theorem d_M_life_33 : decode b_M_life 33 = .ok (.iaload, 1) := by decide +kernel
theorem d_M_life_34 : decode b_M_life 34 = .ok (.bipush 40, 2) := by decide +kernel
theorem d_M_life_36 : decode b_M_life 36 = .ok (.if_icmp .ne 7, 3) := by decide +kernel
theorem d_M_life_39 : decode b_M_life 39 = .ok (.iconst 3, 1) := by decide +kernel
theorem d_M_life_40 : decode b_M_life 40 = .ok (.goto 4, 3) := by decide +kernel
theorem d_M_life_43 : decode b_M_life 43 = .ok (.iconst 0, 1) := by decide +kernel
theorem d_M_life_44 : decode b_M_life 44 = .ok (.putfield 88, 3) := by decide +kernel
theorem d_M_life_47 : decode b_M_life 47 = .ok (.aload_n 0, 1) := by decide +kernel
theorem d_M_life_48 : decode b_M_life 48 = .ok (.getfield 88, 3) := by decide +kernel
theorem d_M_life_51 : decode b_M_life 51 = .ok (.ifCond .le 5, 3) := by decide +kernel
theorem d_M_life_54 : decode b_M_life 54 = .ok (.iconst 0, 1) := by decide +kernel
theorem d_M_life_55 : decode b_M_life 55 = .ok (.ireturn, 1) := by decide +kernel
theorem d_M_life_56 : decode b_M_life 56 = .ok (.aload_n 0, 1) := by decide +kernel
theorem d_M_life_57 : decode b_M_life 57 = .ok (.getfield 44, 3) := by decide +kernel
theorem d_M_life_60 : decode b_M_life 60 = .ok (.bipush 40, 2) := by decide +kernel
theorem d_M_life_62 : decode b_M_life 62 = .ok (.iload_n 1, 1) := by decide +kernel
theorem d_M_life_63 : decode b_M_life 63 = .ok (.imul, 1) := by decide +kernel
theorem d_M_life_64 : decode b_M_life 64 = .ok (.aload_n 0, 1) := by decide +kernel
theorem d_M_life_65 : decode b_M_life 65 = .ok (.getfield 47, 3) := by decide +kernel
theorem d_M_life_68 : decode b_M_life 68 = .ok (.iload_n 1, 1) := by decide +kernel
theorem d_M_life_69 : decode b_M_life 69 = .ok (.iaload, 1) := by decide +kernel
theorem d_M_life_70 : decode b_M_life 70 = .ok (.iadd, 1) := by decide +kernel
theorem d_M_life_71 : decode b_M_life 71 = .ok (.iload_n 2, 1) := by decide +kernel
theorem d_M_life_72 : decode b_M_life 72 = .ok (.iastore, 1) := by decide +kernel
theorem d_M_life_73 : decode b_M_life 73 = .ok (.aload_n 0, 1) := by decide +kernel
theorem d_M_life_74 : decode b_M_life 74 = .ok (.getfield 47, 3) := by decide +kernel
theorem d_M_life_77 : decode b_M_life 77 = .ok (.iload_n 1, 1) := by decide +kernel
theorem d_M_life_78 : decode b_M_life 78 = .ok (.dup2, 1) := by decide +kernel
theorem d_M_life_79 : decode b_M_life 79 = .ok (.iaload, 1) := by decide +kernel
theorem d_M_life_80 : decode b_M_life 80 = .ok (.iconst 1, 1) := by decide +kernel
theorem d_M_life_81 : decode b_M_life 81 = .ok (.iadd, 1) := by decide +kernel
theorem d_M_life_82 : decode b_M_life 82 = .ok (.iastore, 1) := by decide +kernel
theorem d_M_life_83 : decode b_M_life 83 = .ok (.aload_n 0, 1) := by decide +kernel
theorem d_M_life_84 : decode b_M_life 84 = .ok (.getfield 47, 3) := by decide +kernel
theorem d_M_life_87 : decode b_M_life 87 = .ok (.iload_n 1, 1) := by decide +kernel
theorem d_M_life_88 : decode b_M_life 88 = .ok (.iaload, 1) := by decide +kernel
theorem d_M_life_89 : decode b_M_life 89 = .ok (.ireturn, 1) := by decide +kernel
theorem d_M_cost_0 : decode b_M_cost 0 = .ok (.aload_n 0, 1) := by decide +kernel
theorem d_M_cost_1 : decode b_M_cost 1 = .ok (.iload_n 1, 1) := by decide +kernel
theorem d_M_cost_2 : decode b_M_cost 2 = .ok (.invokestatic 94, 3) := by decide +kernel
theorem d_M_cost_5 : decode b_M_cost 5 = .ok (.ifCond .ne 7, 3) := by decide +kernel
theorem d_M_cost_8 : decode b_M_cost 8 = .ok (.iconst 1, 1) := by decide +kernel
theorem d_M_cost_9 : decode b_M_cost 9 = .ok (.goto 32, 3) := by decide +kernel
theorem d_M_cost_12 : decode b_M_cost 12 = .ok (.iload_n 2, 1) := by decide +kernel
theorem d_M_cost_13 : decode b_M_cost 13 = .ok (.i2l, 1) := by decide +kernel
theorem d_M_cost_14 : decode b_M_cost 14 = .ok (.lconst 0, 1) := by decide +kernel
theorem d_M_cost_15 : decode b_M_cost 15 = .ok (.ldc2_w 39, 3) := by decide +kernel
theorem d_M_cost_18 : decode b_M_cost 18 = .ok (.invokestatic 98, 3) := by decide +kernel
theorem d_M_cost_21 : decode b_M_cost 21 = .ok (.ifCond .eq 19, 3) := by decide +kernel
theorem d_M_cost_24 : decode b_M_cost 24 = .ok (.iload_n 3, 1) := by decide +kernel
theorem d_M_cost_25 : decode b_M_cost 25 = .ok (.i2l, 1) := by decide +kernel
theorem d_M_cost_26 : decode b_M_cost 26 = .ok (.lconst 0, 1) := by decide +kernel
theorem d_M_cost_27 : decode b_M_cost 27 = .ok (.ldc2_w 39, 3) := by decide +kernel
theorem d_M_cost_30 : decode b_M_cost 30 = .ok (.invokestatic 98, 3) := by decide +kernel
theorem d_M_cost_33 : decode b_M_cost 33 = .ok (.ifCond .eq 7, 3) := by decide +kernel
theorem d_M_cost_36 : decode b_M_cost 36 = .ok (.iconst 0, 1) := by decide +kernel
theorem d_M_cost_37 : decode b_M_cost 37 = .ok (.goto 4, 3) := by decide +kernel
theorem d_M_cost_40 : decode b_M_cost 40 = .ok (.iconst 2, 1) := by decide +kernel
theorem d_M_cost_41 : decode b_M_cost 41 = .ok (.putfield 88, 3) := by decide +kernel
theorem d_M_cost_44 : decode b_M_cost 44 = .ok (.aload_n 0, 1) := by decide +kernel
theorem d_M_cost_45 : decode b_M_cost 45 = .ok (.getfield 88, 3) := by decide +kernel
theorem d_M_cost_48 : decode b_M_cost 48 = .ok (.ifCond .ne 19, 3) := by decide +kernel
theorem d_M_cost_51 : decode b_M_cost 51 = .ok (.aload_n 0, 1) := by decide +kernel
theorem d_M_cost_52 : decode b_M_cost 52 = .ok (.getfield 50, 3) := by decide +kernel
theorem d_M_cost_55 : decode b_M_cost 55 = .ok (.iload_n 1, 1) := by decide +kernel
theorem d_M_cost_56 : decode b_M_cost 56 = .ok (.iload_n 2, 1) := by decide +kernel
theorem d_M_cost_57 : decode b_M_cost 57 = .ok (.i2l, 1) := by decide +kernel
theorem d_M_cost_58 : decode b_M_cost 58 = .ok (.lastore, 1) := by decide +kernel
theorem d_M_cost_59 : decode b_M_cost 59 = .ok (.aload_n 0, 1) := by decide +kernel
theorem d_M_cost_60 : decode b_M_cost 60 = .ok (.getfield 53, 3) := by decide +kernel
theorem d_M_cost_63 : decode b_M_cost 63 = .ok (.iload_n 1, 1) := by decide +kernel
theorem d_M_cost_64 : decode b_M_cost 64 = .ok (.iload_n 3, 1) := by decide +kernel
theorem d_M_cost_65 : decode b_M_cost 65 = .ok (.i2l, 1) := by decide +kernel
theorem d_M_cost_66 : decode b_M_cost 66 = .ok (.lastore, 1) := by decide +kernel
theorem d_M_cost_67 : decode b_M_cost 67 = .ok (.return_, 1) := by decide +kernel
theorem d_M_costs_0 : decode b_M_costs 0 = .ok (.lconst 0, 1) := by decide +kernel
theorem d_M_costs_1 : decode b_M_costs 1 = .ok (.lstore_n 3, 1) := by decide +kernel
theorem d_M_costs_2 : decode b_M_costs 2 = .ok (.iconst 0, 1) := by decide +kernel
theorem d_M_costs_3 : decode b_M_costs 3 = .ok (.istore 5, 2) := by decide +kernel
theorem d_M_costs_5 : decode b_M_costs 5 = .ok (.iload 5, 2) := by decide +kernel
theorem d_M_costs_7 : decode b_M_costs 7 = .ok (.aload_n 0, 1) := by decide +kernel
theorem d_M_costs_8 : decode b_M_costs 8 = .ok (.getfield 47, 3) := by decide +kernel
theorem d_M_costs_11 : decode b_M_costs 11 = .ok (.iload_n 1, 1) := by decide +kernel
theorem d_M_costs_12 : decode b_M_costs 12 = .ok (.iaload, 1) := by decide +kernel
theorem d_M_costs_13 : decode b_M_costs 13 = .ok (.if_icmp .ge 43, 3) := by decide +kernel
theorem d_M_costs_16 : decode b_M_costs 16 = .ok (.lload_n 3, 1) := by decide +kernel
theorem d_M_costs_17 : decode b_M_costs 17 = .ok (.aload_n 0, 1) := by decide +kernel
theorem d_M_costs_18 : decode b_M_costs 18 = .ok (.getfield 44, 3) := by decide +kernel
theorem d_M_costs_21 : decode b_M_costs 21 = .ok (.bipush 40, 2) := by decide +kernel
theorem d_M_costs_23 : decode b_M_costs 23 = .ok (.iload_n 1, 1) := by decide +kernel
theorem d_M_costs_24 : decode b_M_costs 24 = .ok (.imul, 1) := by decide +kernel
theorem d_M_costs_25 : decode b_M_costs 25 = .ok (.iload 5, 2) := by decide +kernel
theorem d_M_costs_27 : decode b_M_costs 27 = .ok (.iadd, 1) := by decide +kernel
theorem d_M_costs_28 : decode b_M_costs 28 = .ok (.iaload, 1) := by decide +kernel
theorem d_M_costs_29 : decode b_M_costs 29 = .ok (.iload_n 2, 1) := by decide +kernel
theorem d_M_costs_30 : decode b_M_costs 30 = .ok (.if_icmp .ge 12, 3) := by decide +kernel
theorem d_M_costs_33 : decode b_M_costs 33 = .ok (.aload_n 0, 1) := by decide +kernel
theorem d_M_costs_34 : decode b_M_costs 34 = .ok (.getfield 53, 3) := by decide +kernel
theorem d_M_costs_37 : decode b_M_costs 37 = .ok (.iload_n 1, 1) := by decide +kernel
theorem d_M_costs_38 : decode b_M_costs 38 = .ok (.laload, 1) := by decide +kernel
theorem d_M_costs_39 : decode b_M_costs 39 = .ok (.goto 9, 3) := by decide +kernel
theorem d_M_costs_42 : decode b_M_costs 42 = .ok (.aload_n 0, 1) := by decide +kernel
theorem d_M_costs_43 : decode b_M_costs 43 = .ok (.getfield 50, 3) := by decide +kernel
theorem d_M_costs_46 : decode b_M_costs 46 = .ok (.iload_n 1, 1) := by decide +kernel
theorem d_M_costs_47 : decode b_M_costs 47 = .ok (.laload, 1) := by decide +kernel
theorem d_M_costs_48 : decode b_M_costs 48 = .ok (.ladd, 1) := by decide +kernel
theorem d_M_costs_49 : decode b_M_costs 49 = .ok (.lstore_n 3, 1) := by decide +kernel
theorem d_M_costs_50 : decode b_M_costs 50 = .ok (.iinc 5 1, 3) := by decide +kernel
theorem d_M_costs_53 : decode b_M_costs 53 = .ok (.goto (-48), 3) := by decide +kernel
theorem d_M_costs_56 : decode b_M_costs 56 = .ok (.lload_n 3, 1) := by decide +kernel
theorem d_M_costs_57 : decode b_M_costs 57 = .ok (.lreturn, 1) := by decide +kernel
theorem d_M_brings_0 : decode b_M_brings 0 = .ok (.lconst 0, 1) := by decide +kernel
theorem d_M_brings_1 : decode b_M_brings 1 = .ok (.lstore_n 3, 1) := by decide +kernel
theorem d_M_brings_2 : decode b_M_brings 2 = .ok (.iconst 0, 1) := by decide +kernel
theorem d_M_brings_3 : decode b_M_brings 3 = .ok (.istore 5, 2) := by decide +kernel
theorem d_M_brings_5 : decode b_M_brings 5 = .ok (.iload 5, 2) := by decide +kernel
theorem d_M_brings_7 : decode b_M_brings 7 = .ok (.aload_n 0, 1) := by decide +kernel
theorem d_M_brings_8 : decode b_M_brings 8 = .ok (.getfield 47, 3) := by decide +kernel
theorem d_M_brings_11 : decode b_M_brings 11 = .ok (.iload_n 1, 1) := by decide +kernel
theorem d_M_brings_12 : decode b_M_brings 12 = .ok (.iaload, 1) := by decide +kernel
theorem d_M_brings_13 : decode b_M_brings 13 = .ok (.if_icmp .ge 39, 3) := by decide +kernel
theorem d_M_brings_16 : decode b_M_brings 16 = .ok (.aload_n 0, 1) := by decide +kernel
theorem d_M_brings_17 : decode b_M_brings 17 = .ok (.getfield 44, 3) := by decide +kernel
theorem d_M_brings_20 : decode b_M_brings 20 = .ok (.bipush 40, 2) := by decide +kernel
theorem d_M_brings_22 : decode b_M_brings 22 = .ok (.iload_n 1, 1) := by decide +kernel
theorem d_M_brings_23 : decode b_M_brings 23 = .ok (.imul, 1) := by decide +kernel
theorem d_M_brings_24 : decode b_M_brings 24 = .ok (.iload 5, 2) := by decide +kernel
theorem d_M_brings_26 : decode b_M_brings 26 = .ok (.iadd, 1) := by decide +kernel
theorem d_M_brings_27 : decode b_M_brings 27 = .ok (.iaload, 1) := by decide +kernel
theorem d_M_brings_28 : decode b_M_brings 28 = .ok (.istore 6, 2) := by decide +kernel
theorem d_M_brings_30 : decode b_M_brings 30 = .ok (.lload_n 3, 1) := by decide +kernel
theorem d_M_brings_31 : decode b_M_brings 31 = .ok (.iload 6, 2) := by decide +kernel
theorem d_M_brings_33 : decode b_M_brings 33 = .ok (.iload_n 2, 1) := by decide +kernel
theorem d_M_brings_34 : decode b_M_brings 34 = .ok (.if_icmp .ge 8, 3) := by decide +kernel
theorem d_M_brings_37 : decode b_M_brings 37 = .ok (.iload 6, 2) := by decide +kernel
theorem d_M_brings_39 : decode b_M_brings 39 = .ok (.goto 4, 3) := by decide +kernel
theorem d_M_brings_42 : decode b_M_brings 42 = .ok (.iload_n 2, 1) := by decide +kernel
theorem d_M_brings_43 : decode b_M_brings 43 = .ok (.i2l, 1) := by decide +kernel
theorem d_M_brings_44 : decode b_M_brings 44 = .ok (.ladd, 1) := by decide +kernel
theorem d_M_brings_45 : decode b_M_brings 45 = .ok (.lstore_n 3, 1) := by decide +kernel
theorem d_M_brings_46 : decode b_M_brings 46 = .ok (.iinc 5 1, 3) := by decide +kernel
theorem d_M_brings_49 : decode b_M_brings 49 = .ok (.goto (-44), 3) := by decide +kernel
theorem d_M_brings_52 : decode b_M_brings 52 = .ok (.lload_n 3, 1) := by decide +kernel
theorem d_M_brings_53 : decode b_M_brings 53 = .ok (.lreturn, 1) := by decide +kernel
theorem d_M_greatest_0 : decode b_M_greatest 0 = .ok (.iconst 0, 1) := by decide +kernel
theorem d_M_greatest_1 : decode b_M_greatest 1 = .ok (.istore_n 2, 1) := by decide +kernel
theorem d_M_greatest_2 : decode b_M_greatest 2 = .ok (.iconst 0, 1) := by decide +kernel
theorem d_M_greatest_3 : decode b_M_greatest 3 = .ok (.istore_n 3, 1) := by decide +kernel
theorem d_M_greatest_4 : decode b_M_greatest 4 = .ok (.iload_n 3, 1) := by decide +kernel
theorem d_M_greatest_5 : decode b_M_greatest 5 = .ok (.aload_n 0, 1) := by decide +kernel
theorem d_M_greatest_6 : decode b_M_greatest 6 = .ok (.getfield 47, 3) := by decide +kernel
theorem d_M_greatest_9 : decode b_M_greatest 9 = .ok (.iload_n 1, 1) := by decide +kernel
theorem d_M_greatest_10 : decode b_M_greatest 10 = .ok (.iaload, 1) := by decide +kernel
theorem d_M_greatest_11 : decode b_M_greatest 11 = .ok (.if_icmp .ge 35, 3) := by decide +kernel
theorem d_M_greatest_14 : decode b_M_greatest 14 = .ok (.aload_n 0, 1) := by decide +kernel
theorem d_M_greatest_15 : decode b_M_greatest 15 = .ok (.getfield 44, 3) := by decide +kernel
theorem d_M_greatest_18 : decode b_M_greatest 18 = .ok (.bipush 40, 2) := by decide +kernel
theorem d_M_greatest_20 : decode b_M_greatest 20 = .ok (.iload_n 1, 1) := by decide +kernel
theorem d_M_greatest_21 : decode b_M_greatest 21 = .ok (.imul, 1) := by decide +kernel
theorem d_M_greatest_22 : decode b_M_greatest 22 = .ok (.iload_n 3, 1) := by decide +kernel
theorem d_M_greatest_23 : decode b_M_greatest 23 = .ok (.iadd, 1) := by decide +kernel
theorem d_M_greatest_24 : decode b_M_greatest 24 = .ok (.iaload, 1) := by decide +kernel
theorem d_M_greatest_25 : decode b_M_greatest 25 = .ok (.istore 4, 2) := by decide +kernel
theorem d_M_greatest_27 : decode b_M_greatest 27 = .ok (.iload 4, 2) := by decide +kernel
theorem d_M_greatest_29 : decode b_M_greatest 29 = .ok (.iload_n 2, 1) := by decide +kernel
theorem d_M_greatest_30 : decode b_M_greatest 30 = .ok (.if_icmp .le 8, 3) := by decide +kernel
theorem d_M_greatest_33 : decode b_M_greatest 33 = .ok (.iload 4, 2) := by decide +kernel
theorem d_M_greatest_35 : decode b_M_greatest 35 = .ok (.goto 4, 3) := by decide +kernel
theorem d_M_greatest_38 : decode b_M_greatest 38 = .ok (.iload_n 2, 1) := by decide +kernel
theorem d_M_greatest_39 : decode b_M_greatest 39 = .ok (.istore_n 2, 1) := by decide +kernel
theorem d_M_greatest_40 : decode b_M_greatest 40 = .ok (.iinc 3 1, 3) := by decide +kernel
theorem d_M_greatest_43 : decode b_M_greatest 43 = .ok (.goto (-39), 3) := by decide +kernel
theorem d_M_greatest_46 : decode b_M_greatest 46 = .ok (.iload_n 2, 1) := by decide +kernel
theorem d_M_greatest_47 : decode b_M_greatest 47 = .ok (.ireturn, 1) := by decide +kernel
theorem d_M_change_0 : decode b_M_change 0 = .ok (.aload_n 0, 1) := by decide +kernel
theorem d_M_change_1 : decode b_M_change 1 = .ok (.iload_n 1, 1) := by decide +kernel
theorem d_M_change_2 : decode b_M_change 2 = .ok (.invokestatic 94, 3) := by decide +kernel
theorem d_M_change_5 : decode b_M_change 5 = .ok (.ifCond .ne 7, 3) := by decide +kernel
theorem d_M_change_8 : decode b_M_change 8 = .ok (.iconst 1, 1) := by decide +kernel
theorem d_M_change_9 : decode b_M_change 9 = .ok (.goto 17, 3) := by decide +kernel
theorem d_M_change_12 : decode b_M_change 12 = .ok (.aload_n 0, 1) := by decide +kernel
theorem d_M_change_13 : decode b_M_change 13 = .ok (.getfield 47, 3) := by decide +kernel
theorem d_M_change_16 : decode b_M_change 16 = .ok (.iload_n 1, 1) := by decide +kernel
theorem d_M_change_17 : decode b_M_change 17 = .ok (.iaload, 1) := by decide +kernel
theorem d_M_change_18 : decode b_M_change 18 = .ok (.ifCond .ne 7, 3) := by decide +kernel
theorem d_M_change_21 : decode b_M_change 21 = .ok (.iconst 2, 1) := by decide +kernel
theorem d_M_change_22 : decode b_M_change 22 = .ok (.goto 4, 3) := by decide +kernel
theorem d_M_change_25 : decode b_M_change 25 = .ok (.iconst 0, 1) := by decide +kernel
theorem d_M_change_26 : decode b_M_change 26 = .ok (.putfield 88, 3) := by decide +kernel
theorem d_M_change_29 : decode b_M_change 29 = .ok (.aload_n 0, 1) := by decide +kernel
theorem d_M_change_30 : decode b_M_change 30 = .ok (.getfield 88, 3) := by decide +kernel
theorem d_M_change_33 : decode b_M_change 33 = .ok (.ifCond .le 5, 3) := by decide +kernel
theorem d_M_change_36 : decode b_M_change 36 = .ok (.iconst 0, 1) := by decide +kernel
theorem d_M_change_37 : decode b_M_change 37 = .ok (.ireturn, 1) := by decide +kernel
theorem d_M_change_38 : decode b_M_change 38 = .ok (.iconst 1, 1) := by decide +kernel
theorem d_M_change_39 : decode b_M_change 39 = .ok (.istore_n 2, 1) := by decide +kernel
theorem d_M_change_40 : decode b_M_change 40 = .ok (.iconst 2, 1) := by decide +kernel
theorem d_M_change_41 : decode b_M_change 41 = .ok (.istore_n 3, 1) := by decide +kernel
theorem d_M_change_42 : decode b_M_change 42 = .ok (.iload_n 3, 1) := by decide +kernel
theorem d_M_change_43 : decode b_M_change 43 = .ok (.aload_n 0, 1) := by decide +kernel
theorem d_M_change_44 : decode b_M_change 44 = .ok (.iload_n 1, 1) := by decide +kernel
theorem d_M_change_45 : decode b_M_change 45 = .ok (.invokevirtual 121, 3) := by decide +kernel
theorem d_M_change_48 : decode b_M_change 48 = .ok (.if_icmp .gt 45, 3) := by decide +kernel
theorem d_M_change_51 : decode b_M_change 51 = .ok (.aload_n 0, 1) := by decide +kernel
theorem d_M_change_52 : decode b_M_change 52 = .ok (.iload_n 1, 1) := by decide +kernel
theorem d_M_change_53 : decode b_M_change 53 = .ok (.iload_n 3, 1) := by decide +kernel
theorem d_M_change_54 : decode b_M_change 54 = .ok (.invokevirtual 125, 3) := by decide +kernel
theorem d_M_change_57 : decode b_M_change 57 = .ok (.aload_n 0, 1) := by decide +kernel
theorem d_M_change_58 : decode b_M_change 58 = .ok (.iload_n 1, 1) := by decide +kernel
theorem d_M_change_59 : decode b_M_change 59 = .ok (.iload_n 2, 1) := by decide +kernel
theorem d_M_change_60 : decode b_M_change 60 = .ok (.invokevirtual 129, 3) := by decide +kernel
theorem d_M_change_63 : decode b_M_change 63 = .ok (.lmul, 1) := by decide +kernel
theorem d_M_change_64 : decode b_M_change 64 = .ok (.aload_n 0, 1) := by decide +kernel
theorem d_M_change_65 : decode b_M_change 65 = .ok (.iload_n 1, 1) := by decide +kernel
theorem d_M_change_66 : decode b_M_change 66 = .ok (.iload_n 2, 1) := by decide +kernel
theorem d_M_change_67 : decode b_M_change 67 = .ok (.invokevirtual 125, 3) := by decide +kernel
theorem d_M_change_70 : decode b_M_change 70 = .ok (.aload_n 0, 1) := by decide +kernel
theorem d_M_change_71 : decode b_M_change 71 = .ok (.iload_n 1, 1) := by decide +kernel
theorem d_M_change_72 : decode b_M_change 72 = .ok (.iload_n 3, 1) := by decide +kernel
theorem d_M_change_73 : decode b_M_change 73 = .ok (.invokevirtual 129, 3) := by decide +kernel
theorem d_M_change_76 : decode b_M_change 76 = .ok (.lmul, 1) := by decide +kernel
theorem d_M_change_77 : decode b_M_change 77 = .ok (.lcmp, 1) := by decide +kernel
theorem d_M_change_78 : decode b_M_change 78 = .ok (.ifCond .gt 7, 3) := by decide +kernel
theorem d_M_change_81 : decode b_M_change 81 = .ok (.iload_n 3, 1) := by decide +kernel
theorem d_M_change_82 : decode b_M_change 82 = .ok (.goto 4, 3) := by decide +kernel
theorem d_M_change_85 : decode b_M_change 85 = .ok (.iload_n 2, 1) := by decide +kernel
theorem d_M_change_86 : decode b_M_change 86 = .ok (.istore_n 2, 1) := by decide +kernel
theorem d_M_change_87 : decode b_M_change 87 = .ok (.iinc 3 1, 3) := by decide +kernel
theorem d_M_change_90 : decode b_M_change 90 = .ok (.goto (-48), 3) := by decide +kernel
theorem d_M_change_93 : decode b_M_change 93 = .ok (.iload_n 2, 1) := by decide +kernel
theorem d_M_change_94 : decode b_M_change 94 = .ok (.ireturn, 1) := by decide +kernel
theorem d_M_changed_0 : decode b_M_changed 0 = .ok (.aload_n 0, 1) := by decide +kernel
theorem d_M_changed_1 : decode b_M_changed 1 = .ok (.iload_n 1, 1) := by decide +kernel
theorem d_M_changed_2 : decode b_M_changed 2 = .ok (.invokestatic 94, 3) := by decide +kernel
theorem d_M_changed_5 : decode b_M_changed 5 = .ok (.ifCond .eq 13, 3) := by decide +kernel
theorem d_M_changed_8 : decode b_M_changed 8 = .ok (.iload_n 3, 1) := by decide +kernel
theorem d_M_changed_9 : decode b_M_changed 9 = .ok (.i2l, 1) := by decide +kernel
theorem d_M_changed_10 : decode b_M_changed 10 = .ok (.lconst 0, 1) := by decide +kernel
theorem d_M_changed_11 : decode b_M_changed 11 = .ok (.lconst 1, 1) := by decide +kernel
theorem d_M_changed_12 : decode b_M_changed 12 = .ok (.invokestatic 98, 3) := by decide +kernel
theorem d_M_changed_15 : decode b_M_changed 15 = .ok (.ifCond .ne 7, 3) := by decide +kernel
theorem d_M_changed_18 : decode b_M_changed 18 = .ok (.iconst 1, 1) := by decide +kernel
theorem d_M_changed_19 : decode b_M_changed 19 = .ok (.goto 26, 3) := by decide +kernel
theorem d_M_changed_22 : decode b_M_changed 22 = .ok (.iload_n 2, 1) := by decide +kernel
theorem d_M_changed_23 : decode b_M_changed 23 = .ok (.iconst 1, 1) := by decide +kernel
theorem d_M_changed_24 : decode b_M_changed 24 = .ok (.if_icmp .ge 7, 3) := by decide +kernel
theorem d_M_changed_27 : decode b_M_changed 27 = .ok (.iconst 2, 1) := by decide +kernel
theorem d_M_changed_28 : decode b_M_changed 28 = .ok (.goto 17, 3) := by decide +kernel
theorem d_M_changed_31 : decode b_M_changed 31 = .ok (.iload_n 2, 1) := by decide +kernel
theorem d_M_changed_32 : decode b_M_changed 32 = .ok (.aload_n 0, 1) := by decide +kernel
theorem d_M_changed_33 : decode b_M_changed 33 = .ok (.iload_n 1, 1) := by decide +kernel
theorem d_M_changed_34 : decode b_M_changed 34 = .ok (.invokevirtual 121, 3) := by decide +kernel
theorem d_M_changed_37 : decode b_M_changed 37 = .ok (.if_icmp .le 7, 3) := by decide +kernel
theorem d_M_changed_40 : decode b_M_changed 40 = .ok (.iconst 3, 1) := by decide +kernel
theorem d_M_changed_41 : decode b_M_changed 41 = .ok (.goto 4, 3) := by decide +kernel
theorem d_M_changed_44 : decode b_M_changed 44 = .ok (.iconst 0, 1) := by decide +kernel
theorem d_M_changed_45 : decode b_M_changed 45 = .ok (.putfield 88, 3) := by decide +kernel
theorem d_M_changed_48 : decode b_M_changed 48 = .ok (.aload_n 0, 1) := by decide +kernel
theorem d_M_changed_49 : decode b_M_changed 49 = .ok (.getfield 88, 3) := by decide +kernel
theorem d_M_changed_52 : decode b_M_changed 52 = .ok (.ifCond .le 7, 3) := by decide +kernel
theorem d_M_changed_55 : decode b_M_changed 55 = .ok (.lconst 0, 1) := by decide +kernel
theorem d_M_changed_56 : decode b_M_changed 56 = .ok (.goto 22, 3) := by decide +kernel
theorem d_M_changed_59 : decode b_M_changed 59 = .ok (.iload_n 3, 1) := by decide +kernel
theorem d_M_changed_60 : decode b_M_changed 60 = .ok (.ifCond .ne 12, 3) := by decide +kernel
theorem d_M_changed_63 : decode b_M_changed 63 = .ok (.aload_n 0, 1) := by decide +kernel
theorem d_M_changed_64 : decode b_M_changed 64 = .ok (.iload_n 1, 1) := by decide +kernel
theorem d_M_changed_65 : decode b_M_changed 65 = .ok (.iload_n 2, 1) := by decide +kernel
theorem d_M_changed_66 : decode b_M_changed 66 = .ok (.invokevirtual 125, 3) := by decide +kernel
theorem d_M_changed_69 : decode b_M_changed 69 = .ok (.goto 9, 3) := by decide +kernel
theorem d_M_changed_72 : decode b_M_changed 72 = .ok (.aload_n 0, 1) := by decide +kernel
theorem d_M_changed_73 : decode b_M_changed 73 = .ok (.iload_n 1, 1) := by decide +kernel
theorem d_M_changed_74 : decode b_M_changed 74 = .ok (.iload_n 2, 1) := by decide +kernel
theorem d_M_changed_75 : decode b_M_changed 75 = .ok (.invokevirtual 129, 3) := by decide +kernel
theorem d_M_changed_78 : decode b_M_changed 78 = .ok (.lreturn, 1) := by decide +kernel
theorem d_M_breaks_0 : decode b_M_breaks 0 = .ok (.aload_n 0, 1) := by decide +kernel
theorem d_M_breaks_1 : decode b_M_breaks 1 = .ok (.iload_n 1, 1) := by decide +kernel
theorem d_M_breaks_2 : decode b_M_breaks 2 = .ok (.invokestatic 94, 3) := by decide +kernel
theorem d_M_breaks_5 : decode b_M_breaks 5 = .ok (.ifCond .ne 7, 3) := by decide +kernel
theorem d_M_breaks_8 : decode b_M_breaks 8 = .ok (.iconst 1, 1) := by decide +kernel
theorem d_M_breaks_9 : decode b_M_breaks 9 = .ok (.goto 25, 3) := by decide +kernel
theorem d_M_breaks_12 : decode b_M_breaks 12 = .ok (.iload_n 2, 1) := by decide +kernel
theorem d_M_breaks_13 : decode b_M_breaks 13 = .ok (.ifCond .ge 7, 3) := by decide +kernel
theorem d_M_breaks_16 : decode b_M_breaks 16 = .ok (.iconst 2, 1) := by decide +kernel
theorem d_M_breaks_17 : decode b_M_breaks 17 = .ok (.goto 17, 3) := by decide +kernel
theorem d_M_breaks_20 : decode b_M_breaks 20 = .ok (.aload_n 0, 1) := by decide +kernel
theorem d_M_breaks_21 : decode b_M_breaks 21 = .ok (.getfield 47, 3) := by decide +kernel
theorem d_M_breaks_24 : decode b_M_breaks 24 = .ok (.iload_n 1, 1) := by decide +kernel
theorem d_M_breaks_25 : decode b_M_breaks 25 = .ok (.iaload, 1) := by decide +kernel
theorem d_M_breaks_26 : decode b_M_breaks 26 = .ok (.ifCond .ne 7, 3) := by decide +kernel
theorem d_M_breaks_29 : decode b_M_breaks 29 = .ok (.iconst 3, 1) := by decide +kernel
theorem d_M_breaks_30 : decode b_M_breaks 30 = .ok (.goto 4, 3) := by decide +kernel
theorem d_M_breaks_33 : decode b_M_breaks 33 = .ok (.iconst 0, 1) := by decide +kernel
theorem d_M_breaks_34 : decode b_M_breaks 34 = .ok (.putfield 88, 3) := by decide +kernel
theorem d_M_breaks_37 : decode b_M_breaks 37 = .ok (.aload_n 0, 1) := by decide +kernel
theorem d_M_breaks_38 : decode b_M_breaks 38 = .ok (.getfield 88, 3) := by decide +kernel
theorem d_M_breaks_41 : decode b_M_breaks 41 = .ok (.ifCond .le 5, 3) := by decide +kernel
theorem d_M_breaks_44 : decode b_M_breaks 44 = .ok (.iconst 0, 1) := by decide +kernel
theorem d_M_breaks_45 : decode b_M_breaks 45 = .ok (.ireturn, 1) := by decide +kernel
theorem d_M_breaks_46 : decode b_M_breaks 46 = .ok (.aload_n 0, 1) := by decide +kernel
theorem d_M_breaks_47 : decode b_M_breaks 47 = .ok (.getfield 84, 3) := by decide +kernel
theorem d_M_breaks_50 : decode b_M_breaks 50 = .ok (.ldc2_w 132, 3) := by decide +kernel
theorem d_M_breaks_53 : decode b_M_breaks 53 = .ok (.iload_n 2, 1) := by decide +kernel
theorem d_M_breaks_54 : decode b_M_breaks 54 = .ok (.i2l, 1) := by decide +kernel
theorem d_M_breaks_55 : decode b_M_breaks 55 = .ok (.lmul, 1) := by decide +kernel
theorem d_M_breaks_56 : decode b_M_breaks 56 = .ok (.iload_n 1, 1) := by decide +kernel
theorem d_M_breaks_57 : decode b_M_breaks 57 = .ok (.i2l, 1) := by decide +kernel
theorem d_M_breaks_58 : decode b_M_breaks 58 = .ok (.ladd, 1) := by decide +kernel
theorem d_M_breaks_59 : decode b_M_breaks 59 = .ok (.lconst 1, 1) := by decide +kernel
theorem d_M_breaks_60 : decode b_M_breaks 60 = .ok (.ladd, 1) := by decide +kernel
theorem d_M_breaks_61 : decode b_M_breaks 61 = .ok (.ldc2_w 134, 3) := by decide +kernel
theorem d_M_breaks_64 : decode b_M_breaks 64 = .ok (.lmul, 1) := by decide +kernel
theorem d_M_breaks_65 : decode b_M_breaks 65 = .ok (.ladd, 1) := by decide +kernel
theorem d_M_breaks_66 : decode b_M_breaks 66 = .ok (.lstore_n 3, 1) := by decide +kernel
theorem d_M_breaks_67 : decode b_M_breaks 67 = .ok (.lload_n 3, 1) := by decide +kernel
theorem d_M_breaks_68 : decode b_M_breaks 68 = .ok (.lload_n 3, 1) := by decide +kernel
theorem d_M_breaks_69 : decode b_M_breaks 69 = .ok (.bipush 30, 2) := by decide +kernel
theorem d_M_breaks_71 : decode b_M_breaks 71 = .ok (.lushr, 1) := by decide +kernel
theorem d_M_breaks_72 : decode b_M_breaks 72 = .ok (.lxor, 1) := by decide +kernel
theorem d_M_breaks_73 : decode b_M_breaks 73 = .ok (.ldc2_w 136, 3) := by decide +kernel
theorem d_M_breaks_76 : decode b_M_breaks 76 = .ok (.lmul, 1) := by decide +kernel
theorem d_M_breaks_77 : decode b_M_breaks 77 = .ok (.lstore_n 3, 1) := by decide +kernel
theorem d_M_breaks_78 : decode b_M_breaks 78 = .ok (.lload_n 3, 1) := by decide +kernel
theorem d_M_breaks_79 : decode b_M_breaks 79 = .ok (.lload_n 3, 1) := by decide +kernel
theorem d_M_breaks_80 : decode b_M_breaks 80 = .ok (.bipush 27, 2) := by decide +kernel
theorem d_M_breaks_82 : decode b_M_breaks 82 = .ok (.lushr, 1) := by decide +kernel
theorem d_M_breaks_83 : decode b_M_breaks 83 = .ok (.lxor, 1) := by decide +kernel
theorem d_M_breaks_84 : decode b_M_breaks 84 = .ok (.ldc2_w 138, 3) := by decide +kernel
theorem d_M_breaks_87 : decode b_M_breaks 87 = .ok (.lmul, 1) := by decide +kernel
theorem d_M_breaks_88 : decode b_M_breaks 88 = .ok (.lstore_n 3, 1) := by decide +kernel
theorem d_M_breaks_89 : decode b_M_breaks 89 = .ok (.lload_n 3, 1) := by decide +kernel
theorem d_M_breaks_90 : decode b_M_breaks 90 = .ok (.lload_n 3, 1) := by decide +kernel
theorem d_M_breaks_91 : decode b_M_breaks 91 = .ok (.bipush 31, 2) := by decide +kernel
theorem d_M_breaks_93 : decode b_M_breaks 93 = .ok (.lushr, 1) := by decide +kernel
theorem d_M_breaks_94 : decode b_M_breaks 94 = .ok (.lxor, 1) := by decide +kernel
theorem d_M_breaks_95 : decode b_M_breaks 95 = .ok (.lstore_n 3, 1) := by decide +kernel
theorem d_M_breaks_96 : decode b_M_breaks 96 = .ok (.aload_n 0, 1) := by decide +kernel
theorem d_M_breaks_97 : decode b_M_breaks 97 = .ok (.getfield 44, 3) := by decide +kernel
theorem d_M_breaks_100 : decode b_M_breaks 100 = .ok (.bipush 40, 2) := by decide +kernel
theorem d_M_breaks_102 : decode b_M_breaks 102 = .ok (.iload_n 1, 1) := by decide +kernel
theorem d_M_breaks_103 : decode b_M_breaks 103 = .ok (.imul, 1) := by decide +kernel
theorem d_M_breaks_104 : decode b_M_breaks 104 = .ok (.lload_n 3, 1) := by decide +kernel
theorem d_M_breaks_105 : decode b_M_breaks 105 = .ok (.iconst 1, 1) := by decide +kernel
theorem d_M_breaks_106 : decode b_M_breaks 106 = .ok (.lushr, 1) := by decide +kernel
theorem d_M_breaks_107 : decode b_M_breaks 107 = .ok (.aload_n 0, 1) := by decide +kernel
theorem d_M_breaks_108 : decode b_M_breaks 108 = .ok (.getfield 47, 3) := by decide +kernel
theorem d_M_breaks_111 : decode b_M_breaks 111 = .ok (.iload_n 1, 1) := by decide +kernel
theorem d_M_breaks_112 : decode b_M_breaks 112 = .ok (.iaload, 1) := by decide +kernel
theorem d_M_breaks_113 : decode b_M_breaks 113 = .ok (.i2l, 1) := by decide +kernel
theorem d_M_breaks_114 : decode b_M_breaks 114 = .ok (.lrem, 1) := by decide +kernel
theorem d_M_breaks_115 : decode b_M_breaks 115 = .ok (.l2i, 1) := by decide +kernel
theorem d_M_breaks_116 : decode b_M_breaks 116 = .ok (.iadd, 1) := by decide +kernel
theorem d_M_breaks_117 : decode b_M_breaks 117 = .ok (.iaload, 1) := by decide +kernel
theorem d_M_breaks_118 : decode b_M_breaks 118 = .ok (.ireturn, 1) := by decide +kernel
theorem d_M_rules_0 : decode b_M_rules 0 = .ok (.iload_n 1, 1) := by decide +kernel
theorem d_M_rules_1 : decode b_M_rules 1 = .ok (.i2l, 1) := by decide +kernel
theorem d_M_rules_2 : decode b_M_rules 2 = .ok (.lconst 0, 1) := by decide +kernel
theorem d_M_rules_3 : decode b_M_rules 3 = .ok (.ldc2_w 39, 3) := by decide +kernel
theorem d_M_rules_6 : decode b_M_rules 6 = .ok (.invokestatic 98, 3) := by decide +kernel
theorem d_M_rules_9 : decode b_M_rules 9 = .ok (.ifCond .eq 46, 3) := by decide +kernel
theorem d_M_rules_12 : decode b_M_rules 12 = .ok (.iload_n 3, 1) := by decide +kernel
theorem d_M_rules_13 : decode b_M_rules 13 = .ok (.i2l, 1) := by decide +kernel
theorem d_M_rules_14 : decode b_M_rules 14 = .ok (.lconst 0, 1) := by decide +kernel
theorem d_M_rules_15 : decode b_M_rules 15 = .ok (.ldc2_w 39, 3) := by decide +kernel
theorem d_M_rules_18 : decode b_M_rules 18 = .ok (.invokestatic 98, 3) := by decide +kernel
theorem d_M_rules_21 : decode b_M_rules 21 = .ok (.ifCond .eq 34, 3) := by decide +kernel
theorem d_M_rules_24 : decode b_M_rules 24 = .ok (.iload 4, 2) := by decide +kernel
theorem d_M_rules_26 : decode b_M_rules 26 = .ok (.i2l, 1) := by decide +kernel
theorem d_M_rules_27 : decode b_M_rules 27 = .ok (.lconst 0, 1) := by decide +kernel
theorem d_M_rules_28 : decode b_M_rules 28 = .ok (.ldc2_w 39, 3) := by decide +kernel
theorem d_M_rules_31 : decode b_M_rules 31 = .ok (.invokestatic 98, 3) := by decide +kernel
theorem d_M_rules_34 : decode b_M_rules 34 = .ok (.ifCond .eq 21, 3) := by decide +kernel
theorem d_M_rules_37 : decode b_M_rules 37 = .ok (.iload_n 2, 1) := by decide +kernel
theorem d_M_rules_38 : decode b_M_rules 38 = .ok (.i2l, 1) := by decide +kernel
theorem d_M_rules_39 : decode b_M_rules 39 = .ok (.ldc2_w 140, 3) := by decide +kernel
theorem d_M_rules_42 : decode b_M_rules 42 = .ok (.ldc2_w 142, 3) := by decide +kernel
theorem d_M_rules_45 : decode b_M_rules 45 = .ok (.invokestatic 98, 3) := by decide +kernel
theorem d_M_rules_48 : decode b_M_rules 48 = .ok (.ifCond .eq 7, 3) := by decide +kernel
theorem d_M_rules_51 : decode b_M_rules 51 = .ok (.iconst 1, 1) := by decide +kernel
theorem d_M_rules_52 : decode b_M_rules 52 = .ok (.goto 4, 3) := by decide +kernel
theorem d_M_rules_55 : decode b_M_rules 55 = .ok (.iconst 0, 1) := by decide +kernel
theorem d_M_rules_56 : decode b_M_rules 56 = .ok (.istore 5, 2) := by decide +kernel
theorem d_M_rules_58 : decode b_M_rules 58 = .ok (.aload_n 0, 1) := by decide +kernel
theorem d_M_rules_59 : decode b_M_rules 59 = .ok (.iload 5, 2) := by decide +kernel
theorem d_M_rules_61 : decode b_M_rules 61 = .ok (.ifCond .eq 7, 3) := by decide +kernel
theorem d_M_rules_64 : decode b_M_rules 64 = .ok (.iconst 0, 1) := by decide +kernel
theorem d_M_rules_65 : decode b_M_rules 65 = .ok (.goto 4, 3) := by decide +kernel
theorem d_M_rules_68 : decode b_M_rules 68 = .ok (.iconst 1, 1) := by decide +kernel
theorem d_M_rules_69 : decode b_M_rules 69 = .ok (.putfield 88, 3) := by decide +kernel
theorem d_M_rules_72 : decode b_M_rules 72 = .ok (.iload 5, 2) := by decide +kernel
theorem d_M_rules_74 : decode b_M_rules 74 = .ok (.ifCond .eq 24, 3) := by decide +kernel
theorem d_M_rules_77 : decode b_M_rules 77 = .ok (.aload_n 0, 1) := by decide +kernel
theorem d_M_rules_78 : decode b_M_rules 78 = .ok (.iload_n 1, 1) := by decide +kernel
theorem d_M_rules_79 : decode b_M_rules 79 = .ok (.putfield 56, 3) := by decide +kernel
theorem d_M_rules_82 : decode b_M_rules 82 = .ok (.aload_n 0, 1) := by decide +kernel
theorem d_M_rules_83 : decode b_M_rules 83 = .ok (.iload_n 2, 1) := by decide +kernel
theorem d_M_rules_84 : decode b_M_rules 84 = .ok (.putfield 60, 3) := by decide +kernel
theorem d_M_rules_87 : decode b_M_rules 87 = .ok (.aload_n 0, 1) := by decide +kernel
theorem d_M_rules_88 : decode b_M_rules 88 = .ok (.iload_n 3, 1) := by decide +kernel
theorem d_M_rules_89 : decode b_M_rules 89 = .ok (.putfield 63, 3) := by decide +kernel
theorem d_M_rules_92 : decode b_M_rules 92 = .ok (.aload_n 0, 1) := by decide +kernel
theorem d_M_rules_93 : decode b_M_rules 93 = .ok (.iload 4, 2) := by decide +kernel
theorem d_M_rules_95 : decode b_M_rules 95 = .ok (.putfield 66, 3) := by decide +kernel
theorem d_M_rules_98 : decode b_M_rules 98 = .ok (.return_, 1) := by decide +kernel
theorem d_M_reading_0 : decode b_M_reading 0 = .ok (.aload_n 0, 1) := by decide +kernel
theorem d_M_reading_1 : decode b_M_reading 1 = .ok (.getfield 69, 3) := by decide +kernel
theorem d_M_reading_4 : decode b_M_reading 4 = .ok (.bipush 24, 2) := by decide +kernel
theorem d_M_reading_6 : decode b_M_reading 6 = .ok (.iload_n 1, 1) := by decide +kernel
theorem d_M_reading_7 : decode b_M_reading 7 = .ok (.imul, 1) := by decide +kernel
theorem d_M_reading_8 : decode b_M_reading 8 = .ok (.iload_n 2, 1) := by decide +kernel
theorem d_M_reading_9 : decode b_M_reading 9 = .ok (.iadd, 1) := by decide +kernel
theorem d_M_reading_10 : decode b_M_reading 10 = .ok (.iaload, 1) := by decide +kernel
theorem d_M_reading_11 : decode b_M_reading 11 = .ok (.ireturn, 1) := by decide +kernel
theorem d_M_apart_0 : decode b_M_apart 0 = .ok (.iload_n 0, 1) := by decide +kernel
theorem d_M_apart_1 : decode b_M_apart 1 = .ok (.iload_n 1, 1) := by decide +kernel
theorem d_M_apart_2 : decode b_M_apart 2 = .ok (.if_icmp .ge 9, 3) := by decide +kernel
theorem d_M_apart_5 : decode b_M_apart 5 = .ok (.iload_n 1, 1) := by decide +kernel
theorem d_M_apart_6 : decode b_M_apart 6 = .ok (.iload_n 0, 1) := by decide +kernel
theorem d_M_apart_7 : decode b_M_apart 7 = .ok (.isub, 1) := by decide +kernel
theorem d_M_apart_8 : decode b_M_apart 8 = .ok (.goto 6, 3) := by decide +kernel
theorem d_M_apart_11 : decode b_M_apart 11 = .ok (.iload_n 0, 1) := by decide +kernel
theorem d_M_apart_12 : decode b_M_apart 12 = .ok (.iload_n 1, 1) := by decide +kernel
theorem d_M_apart_13 : decode b_M_apart 13 = .ok (.isub, 1) := by decide +kernel
theorem d_M_apart_14 : decode b_M_apart 14 = .ok (.ireturn, 1) := by decide +kernel
theorem d_M_fired_0 : decode b_M_fired 0 = .ok (.aload_n 0, 1) := by decide +kernel
theorem d_M_fired_1 : decode b_M_fired 1 = .ok (.iload_n 1, 1) := by decide +kernel
theorem d_M_fired_2 : decode b_M_fired 2 = .ok (.iconst 0, 1) := by decide +kernel
theorem d_M_fired_3 : decode b_M_fired 3 = .ok (.invokevirtual 144, 3) := by decide +kernel
theorem d_M_fired_6 : decode b_M_fired 6 = .ok (.aload_n 0, 1) := by decide +kernel
theorem d_M_fired_7 : decode b_M_fired 7 = .ok (.getfield 56, 3) := by decide +kernel
theorem d_M_fired_10 : decode b_M_fired 10 = .ok (.if_icmp .le 5, 3) := by decide +kernel
theorem d_M_fired_13 : decode b_M_fired 13 = .ok (.iconst 0, 1) := by decide +kernel
theorem d_M_fired_14 : decode b_M_fired 14 = .ok (.ireturn, 1) := by decide +kernel
theorem d_M_fired_15 : decode b_M_fired 15 = .ok (.aload_n 0, 1) := by decide +kernel
theorem d_M_fired_16 : decode b_M_fired 16 = .ok (.getfield 72, 3) := by decide +kernel
theorem d_M_fired_19 : decode b_M_fired 19 = .ok (.iload_n 1, 1) := by decide +kernel
theorem d_M_fired_20 : decode b_M_fired 20 = .ok (.iaload, 1) := by decide +kernel
theorem d_M_fired_21 : decode b_M_fired 21 = .ok (.aload_n 0, 1) := by decide +kernel
theorem d_M_fired_22 : decode b_M_fired 22 = .ok (.getfield 60, 3) := by decide +kernel
theorem d_M_fired_25 : decode b_M_fired 25 = .ok (.if_icmp .lt 7, 3) := by decide +kernel
theorem d_M_fired_28 : decode b_M_fired 28 = .ok (.iconst 1, 1) := by decide +kernel
theorem d_M_fired_29 : decode b_M_fired 29 = .ok (.goto 4, 3) := by decide +kernel
theorem d_M_fired_32 : decode b_M_fired 32 = .ok (.iconst 0, 1) := by decide +kernel
theorem d_M_fired_33 : decode b_M_fired 33 = .ok (.istore_n 2, 1) := by decide +kernel
theorem d_M_fired_34 : decode b_M_fired 34 = .ok (.aload_n 0, 1) := by decide +kernel
theorem d_M_fired_35 : decode b_M_fired 35 = .ok (.getfield 72, 3) := by decide +kernel
theorem d_M_fired_38 : decode b_M_fired 38 = .ok (.iload_n 1, 1) := by decide +kernel
theorem d_M_fired_39 : decode b_M_fired 39 = .ok (.iaload, 1) := by decide +kernel
theorem d_M_fired_40 : decode b_M_fired 40 = .ok (.aload_n 0, 1) := by decide +kernel
theorem d_M_fired_41 : decode b_M_fired 41 = .ok (.getfield 60, 3) := by decide +kernel
theorem d_M_fired_44 : decode b_M_fired 44 = .ok (.if_icmp .lt 7, 3) := by decide +kernel
theorem d_M_fired_47 : decode b_M_fired 47 = .ok (.iconst 1, 1) := by decide +kernel
theorem d_M_fired_48 : decode b_M_fired 48 = .ok (.goto 4, 3) := by decide +kernel
theorem d_M_fired_51 : decode b_M_fired 51 = .ok (.iconst 0, 1) := by decide +kernel
theorem d_M_fired_52 : decode b_M_fired 52 = .ok (.istore_n 3, 1) := by decide +kernel
theorem d_M_fired_53 : decode b_M_fired 53 = .ok (.iconst 0, 1) := by decide +kernel
theorem d_M_fired_54 : decode b_M_fired 54 = .ok (.istore 4, 2) := by decide +kernel
theorem d_M_fired_56 : decode b_M_fired 56 = .ok (.iload 4, 2) := by decide +kernel
theorem d_M_fired_58 : decode b_M_fired 58 = .ok (.aload_n 0, 1) := by decide +kernel
theorem d_M_fired_59 : decode b_M_fired 59 = .ok (.getfield 60, 3) := by decide +kernel
theorem d_M_fired_62 : decode b_M_fired 62 = .ok (.if_icmp .ge 84, 3) := by decide +kernel
theorem d_M_fired_65 : decode b_M_fired 65 = .ok (.iload 4, 2) := by decide +kernel
theorem d_M_fired_67 : decode b_M_fired 67 = .ok (.aload_n 0, 1) := by decide +kernel
theorem d_M_fired_68 : decode b_M_fired 68 = .ok (.getfield 72, 3) := by decide +kernel
theorem d_M_fired_71 : decode b_M_fired 71 = .ok (.iload_n 1, 1) := by decide +kernel
theorem d_M_fired_72 : decode b_M_fired 72 = .ok (.iaload, 1) := by decide +kernel
theorem d_M_fired_73 : decode b_M_fired 73 = .ok (.if_icmp .ge 73, 3) := by decide +kernel
theorem d_M_fired_76 : decode b_M_fired 76 = .ok (.iload_n 2, 1) := by decide +kernel
theorem d_M_fired_77 : decode b_M_fired 77 = .ok (.ifCond .eq 37, 3) := by decide +kernel
theorem d_M_fired_80 : decode b_M_fired 80 = .ok (.iload 4, 2) := by decide +kernel
theorem d_M_fired_82 : decode b_M_fired 82 = .ok (.aload_n 0, 1) := by decide +kernel
theorem d_M_fired_83 : decode b_M_fired 83 = .ok (.getfield 60, 3) := by decide +kernel
theorem d_M_fired_86 : decode b_M_fired 86 = .ok (.iconst 1, 1) := by decide +kernel
theorem d_M_fired_87 : decode b_M_fired 87 = .ok (.isub, 1) := by decide +kernel
theorem d_M_fired_88 : decode b_M_fired 88 = .ok (.if_icmp .eq 22, 3) := by decide +kernel
theorem d_M_fired_91 : decode b_M_fired 91 = .ok (.aload_n 0, 1) := by decide +kernel
theorem d_M_fired_92 : decode b_M_fired 92 = .ok (.iload_n 1, 1) := by decide +kernel
theorem d_M_fired_93 : decode b_M_fired 93 = .ok (.iload 4, 2) := by decide +kernel
theorem d_M_fired_95 : decode b_M_fired 95 = .ok (.invokevirtual 144, 3) := by decide +kernel
theorem d_M_fired_98 : decode b_M_fired 98 = .ok (.aload_n 0, 1) := by decide +kernel
theorem d_M_fired_99 : decode b_M_fired 99 = .ok (.iload_n 1, 1) := by decide +kernel
theorem d_M_fired_100 : decode b_M_fired 100 = .ok (.iload 4, 2) := by decide +kernel
theorem d_M_fired_102 : decode b_M_fired 102 = .ok (.iconst 1, 1) := by decide +kernel
theorem d_M_fired_103 : decode b_M_fired 103 = .ok (.iadd, 1) := by decide +kernel
theorem d_M_fired_104 : decode b_M_fired 104 = .ok (.invokevirtual 144, 3) := by decide +kernel
theorem d_M_fired_107 : decode b_M_fired 107 = .ok (.if_icmp .le 7, 3) := by decide +kernel
theorem d_M_fired_110 : decode b_M_fired 110 = .ok (.iconst 1, 1) := by decide +kernel
theorem d_M_fired_111 : decode b_M_fired 111 = .ok (.goto 4, 3) := by decide +kernel
theorem d_M_fired_114 : decode b_M_fired 114 = .ok (.iconst 0, 1) := by decide +kernel
theorem d_M_fired_115 : decode b_M_fired 115 = .ok (.istore_n 2, 1) := by decide +kernel
theorem d_M_fired_116 : decode b_M_fired 116 = .ok (.iload_n 3, 1) := by decide +kernel
theorem d_M_fired_117 : decode b_M_fired 117 = .ok (.ifCond .eq 21, 3) := by decide +kernel
theorem d_M_fired_120 : decode b_M_fired 120 = .ok (.aload_n 0, 1) := by decide +kernel
theorem d_M_fired_121 : decode b_M_fired 121 = .ok (.iload_n 1, 1) := by decide +kernel
theorem d_M_fired_122 : decode b_M_fired 122 = .ok (.iload 4, 2) := by decide +kernel
theorem d_M_fired_124 : decode b_M_fired 124 = .ok (.invokevirtual 144, 3) := by decide +kernel
theorem d_M_fired_127 : decode b_M_fired 127 = .ok (.aload_n 0, 1) := by decide +kernel
theorem d_M_fired_128 : decode b_M_fired 128 = .ok (.getfield 63, 3) := by decide +kernel
theorem d_M_fired_131 : decode b_M_fired 131 = .ok (.if_icmp .le 7, 3) := by decide +kernel
theorem d_M_fired_134 : decode b_M_fired 134 = .ok (.iconst 1, 1) := by decide +kernel
theorem d_M_fired_135 : decode b_M_fired 135 = .ok (.goto 4, 3) := by decide +kernel
theorem d_M_fired_138 : decode b_M_fired 138 = .ok (.iconst 0, 1) := by decide +kernel
theorem d_M_fired_139 : decode b_M_fired 139 = .ok (.istore_n 3, 1) := by decide +kernel
theorem d_M_fired_140 : decode b_M_fired 140 = .ok (.iinc 4 1, 3) := by decide +kernel
theorem d_M_fired_143 : decode b_M_fired 143 = .ok (.goto (-87), 3) := by decide +kernel
theorem d_M_fired_146 : decode b_M_fired 146 = .ok (.iload_n 2, 1) := by decide +kernel
theorem d_M_fired_147 : decode b_M_fired 147 = .ok (.ifCond .ne 7, 3) := by decide +kernel
theorem d_M_fired_150 : decode b_M_fired 150 = .ok (.iload_n 3, 1) := by decide +kernel
theorem d_M_fired_151 : decode b_M_fired 151 = .ok (.ifCond .eq 13, 3) := by decide +kernel
theorem d_M_fired_154 : decode b_M_fired 154 = .ok (.iload_n 2, 1) := by decide +kernel
theorem d_M_fired_155 : decode b_M_fired 155 = .ok (.ifCond .eq 7, 3) := by decide +kernel
theorem d_M_fired_158 : decode b_M_fired 158 = .ok (.iconst 1, 1) := by decide +kernel
theorem d_M_fired_159 : decode b_M_fired 159 = .ok (.goto 4, 3) := by decide +kernel
theorem d_M_fired_162 : decode b_M_fired 162 = .ok (.iconst 2, 1) := by decide +kernel
theorem d_M_fired_163 : decode b_M_fired 163 = .ok (.ireturn, 1) := by decide +kernel
theorem d_M_fired_164 : decode b_M_fired 164 = .ok (.aload_n 0, 1) := by decide +kernel
theorem d_M_fired_165 : decode b_M_fired 165 = .ok (.getfield 72, 3) := by decide +kernel
theorem d_M_fired_168 : decode b_M_fired 168 = .ok (.iload_n 1, 1) := by decide +kernel
theorem d_M_fired_169 : decode b_M_fired 169 = .ok (.iaload, 1) := by decide +kernel
theorem d_M_fired_170 : decode b_M_fired 170 = .ok (.iconst 2, 1) := by decide +kernel
theorem d_M_fired_171 : decode b_M_fired 171 = .ok (.if_icmp .le 45, 3) := by decide +kernel
theorem d_M_fired_174 : decode b_M_fired 174 = .ok (.aload_n 0, 1) := by decide +kernel
theorem d_M_fired_175 : decode b_M_fired 175 = .ok (.iload_n 1, 1) := by decide +kernel
theorem d_M_fired_176 : decode b_M_fired 176 = .ok (.iconst 0, 1) := by decide +kernel
theorem d_M_fired_177 : decode b_M_fired 177 = .ok (.invokevirtual 144, 3) := by decide +kernel
theorem d_M_fired_180 : decode b_M_fired 180 = .ok (.aload_n 0, 1) := by decide +kernel
theorem d_M_fired_181 : decode b_M_fired 181 = .ok (.iload_n 1, 1) := by decide +kernel
theorem d_M_fired_182 : decode b_M_fired 182 = .ok (.iconst 1, 1) := by decide +kernel
theorem d_M_fired_183 : decode b_M_fired 183 = .ok (.invokevirtual 144, 3) := by decide +kernel
theorem d_M_fired_186 : decode b_M_fired 186 = .ok (.invokestatic 148, 3) := by decide +kernel
theorem d_M_fired_189 : decode b_M_fired 189 = .ok (.aload_n 0, 1) := by decide +kernel
theorem d_M_fired_190 : decode b_M_fired 190 = .ok (.iload_n 1, 1) := by decide +kernel
theorem d_M_fired_191 : decode b_M_fired 191 = .ok (.iconst 1, 1) := by decide +kernel
theorem d_M_fired_192 : decode b_M_fired 192 = .ok (.invokevirtual 144, 3) := by decide +kernel
theorem d_M_fired_195 : decode b_M_fired 195 = .ok (.aload_n 0, 1) := by decide +kernel
theorem d_M_fired_196 : decode b_M_fired 196 = .ok (.iload_n 1, 1) := by decide +kernel
theorem d_M_fired_197 : decode b_M_fired 197 = .ok (.iconst 2, 1) := by decide +kernel
theorem d_M_fired_198 : decode b_M_fired 198 = .ok (.invokevirtual 144, 3) := by decide +kernel
theorem d_M_fired_201 : decode b_M_fired 201 = .ok (.invokestatic 148, 3) := by decide +kernel
theorem d_M_fired_204 : decode b_M_fired 204 = .ok (.iadd, 1) := by decide +kernel
theorem d_M_fired_205 : decode b_M_fired 205 = .ok (.aload_n 0, 1) := by decide +kernel
theorem d_M_fired_206 : decode b_M_fired 206 = .ok (.getfield 66, 3) := by decide +kernel
theorem d_M_fired_209 : decode b_M_fired 209 = .ok (.if_icmp .le 7, 3) := by decide +kernel
theorem d_M_fired_212 : decode b_M_fired 212 = .ok (.iconst 1, 1) := by decide +kernel
theorem d_M_fired_213 : decode b_M_fired 213 = .ok (.goto 4, 3) := by decide +kernel
theorem d_M_fired_216 : decode b_M_fired 216 = .ok (.iconst 0, 1) := by decide +kernel
theorem d_M_fired_217 : decode b_M_fired 217 = .ok (.istore 4, 2) := by decide +kernel
theorem d_M_fired_219 : decode b_M_fired 219 = .ok (.iload 4, 2) := by decide +kernel
theorem d_M_fired_221 : decode b_M_fired 221 = .ok (.ifCond .eq 7, 3) := by decide +kernel
theorem d_M_fired_224 : decode b_M_fired 224 = .ok (.iconst 3, 1) := by decide +kernel
theorem d_M_fired_225 : decode b_M_fired 225 = .ok (.goto 4, 3) := by decide +kernel
theorem d_M_fired_228 : decode b_M_fired 228 = .ok (.iconst (-1), 1) := by decide +kernel
theorem d_M_fired_229 : decode b_M_fired 229 = .ok (.ireturn, 1) := by decide +kernel
theorem d_M_power_0 : decode b_M_power 0 = .ok (.aload_n 0, 1) := by decide +kernel
theorem d_M_power_1 : decode b_M_power 1 = .ok (.aload_n 0, 1) := by decide +kernel
theorem d_M_power_2 : decode b_M_power 2 = .ok (.iload_n 1, 1) := by decide +kernel
theorem d_M_power_3 : decode b_M_power 3 = .ok (.invokevirtual 105, 3) := by decide +kernel
theorem d_M_power_6 : decode b_M_power 6 = .ok (.ifCond .eq 7, 3) := by decide +kernel
theorem d_M_power_9 : decode b_M_power 9 = .ok (.iconst 1, 1) := by decide +kernel
theorem d_M_power_10 : decode b_M_power 10 = .ok (.goto 30, 3) := by decide +kernel
theorem d_M_power_13 : decode b_M_power 13 = .ok (.iload_n 3, 1) := by decide +kernel
theorem d_M_power_14 : decode b_M_power 14 = .ok (.i2l, 1) := by decide +kernel
theorem d_M_power_15 : decode b_M_power 15 = .ok (.lconst 0, 1) := by decide +kernel
theorem d_M_power_16 : decode b_M_power 16 = .ok (.ldc2_w 39, 3) := by decide +kernel
theorem d_M_power_19 : decode b_M_power 19 = .ok (.invokestatic 98, 3) := by decide +kernel
theorem d_M_power_22 : decode b_M_power 22 = .ok (.ifCond .eq 13, 3) := by decide +kernel
theorem d_M_power_25 : decode b_M_power 25 = .ok (.iload_n 2, 1) := by decide +kernel
theorem d_M_power_26 : decode b_M_power 26 = .ok (.aload_n 0, 1) := by decide +kernel
theorem d_M_power_27 : decode b_M_power 27 = .ok (.getfield 75, 3) := by decide +kernel
theorem d_M_power_30 : decode b_M_power 30 = .ok (.iload_n 1, 1) := by decide +kernel
theorem d_M_power_31 : decode b_M_power 31 = .ok (.iaload, 1) := by decide +kernel
theorem d_M_power_32 : decode b_M_power 32 = .ok (.if_icmp .gt 7, 3) := by decide +kernel
theorem d_M_power_35 : decode b_M_power 35 = .ok (.iconst 2, 1) := by decide +kernel
theorem d_M_power_36 : decode b_M_power 36 = .ok (.goto 4, 3) := by decide +kernel
theorem d_M_power_39 : decode b_M_power 39 = .ok (.iconst 0, 1) := by decide +kernel
theorem d_M_power_40 : decode b_M_power 40 = .ok (.putfield 88, 3) := by decide +kernel
theorem d_M_power_43 : decode b_M_power 43 = .ok (.aload_n 0, 1) := by decide +kernel
theorem d_M_power_44 : decode b_M_power 44 = .ok (.getfield 88, 3) := by decide +kernel
theorem d_M_power_47 : decode b_M_power 47 = .ok (.ifCond .le 5, 3) := by decide +kernel
theorem d_M_power_50 : decode b_M_power 50 = .ok (.iconst 0, 1) := by decide +kernel
theorem d_M_power_51 : decode b_M_power 51 = .ok (.ireturn, 1) := by decide +kernel
theorem d_M_power_52 : decode b_M_power 52 = .ok (.aload_n 0, 1) := by decide +kernel
theorem d_M_power_53 : decode b_M_power 53 = .ok (.getfield 75, 3) := by decide +kernel
theorem d_M_power_56 : decode b_M_power 56 = .ok (.iload_n 1, 1) := by decide +kernel
theorem d_M_power_57 : decode b_M_power 57 = .ok (.iload_n 2, 1) := by decide +kernel
theorem d_M_power_58 : decode b_M_power 58 = .ok (.iastore, 1) := by decide +kernel
theorem d_M_power_59 : decode b_M_power 59 = .ok (.bipush 23, 2) := by decide +kernel
theorem d_M_power_61 : decode b_M_power 61 = .ok (.istore 4, 2) := by decide +kernel
theorem d_M_power_63 : decode b_M_power 63 = .ok (.iload 4, 2) := by decide +kernel
theorem d_M_power_65 : decode b_M_power 65 = .ok (.ifCond .le 35, 3) := by decide +kernel
theorem d_M_power_68 : decode b_M_power 68 = .ok (.aload_n 0, 1) := by decide +kernel
theorem d_M_power_69 : decode b_M_power 69 = .ok (.getfield 69, 3) := by decide +kernel
theorem d_M_power_72 : decode b_M_power 72 = .ok (.bipush 24, 2) := by decide +kernel
theorem d_M_power_74 : decode b_M_power 74 = .ok (.iload_n 1, 1) := by decide +kernel
theorem d_M_power_75 : decode b_M_power 75 = .ok (.imul, 1) := by decide +kernel
theorem d_M_power_76 : decode b_M_power 76 = .ok (.iload 4, 2) := by decide +kernel
theorem d_M_power_78 : decode b_M_power 78 = .ok (.iadd, 1) := by decide +kernel
theorem d_M_power_79 : decode b_M_power 79 = .ok (.aload_n 0, 1) := by decide +kernel
theorem d_M_power_80 : decode b_M_power 80 = .ok (.getfield 69, 3) := by decide +kernel
theorem d_M_power_83 : decode b_M_power 83 = .ok (.bipush 24, 2) := by decide +kernel
theorem d_M_power_85 : decode b_M_power 85 = .ok (.iload_n 1, 1) := by decide +kernel
theorem d_M_power_86 : decode b_M_power 86 = .ok (.imul, 1) := by decide +kernel
theorem d_M_power_87 : decode b_M_power 87 = .ok (.iload 4, 2) := by decide +kernel
theorem d_M_power_89 : decode b_M_power 89 = .ok (.iadd, 1) := by decide +kernel
theorem d_M_power_90 : decode b_M_power 90 = .ok (.iconst 1, 1) := by decide +kernel
theorem d_M_power_91 : decode b_M_power 91 = .ok (.isub, 1) := by decide +kernel
theorem d_M_power_92 : decode b_M_power 92 = .ok (.iaload, 1) := by decide +kernel
theorem d_M_power_93 : decode b_M_power 93 = .ok (.iastore, 1) := by decide +kernel
theorem d_M_power_94 : decode b_M_power 94 = .ok (.iinc 4 (-1), 3) := by decide +kernel
theorem d_M_power_97 : decode b_M_power 97 = .ok (.goto (-34), 3) := by decide +kernel
theorem d_M_power_100 : decode b_M_power 100 = .ok (.aload_n 0, 1) := by decide +kernel
theorem d_M_power_101 : decode b_M_power 101 = .ok (.getfield 69, 3) := by decide +kernel
theorem d_M_power_104 : decode b_M_power 104 = .ok (.bipush 24, 2) := by decide +kernel
theorem d_M_power_106 : decode b_M_power 106 = .ok (.iload_n 1, 1) := by decide +kernel
theorem d_M_power_107 : decode b_M_power 107 = .ok (.imul, 1) := by decide +kernel
theorem d_M_power_108 : decode b_M_power 108 = .ok (.iload_n 3, 1) := by decide +kernel
theorem d_M_power_109 : decode b_M_power 109 = .ok (.iastore, 1) := by decide +kernel
theorem d_M_power_110 : decode b_M_power 110 = .ok (.aload_n 0, 1) := by decide +kernel
theorem d_M_power_111 : decode b_M_power 111 = .ok (.getfield 72, 3) := by decide +kernel
theorem d_M_power_114 : decode b_M_power 114 = .ok (.iload_n 1, 1) := by decide +kernel
theorem d_M_power_115 : decode b_M_power 115 = .ok (.aload_n 0, 1) := by decide +kernel
theorem d_M_power_116 : decode b_M_power 116 = .ok (.getfield 72, 3) := by decide +kernel
theorem d_M_power_119 : decode b_M_power 119 = .ok (.iload_n 1, 1) := by decide +kernel
theorem d_M_power_120 : decode b_M_power 120 = .ok (.iaload, 1) := by decide +kernel
theorem d_M_power_121 : decode b_M_power 121 = .ok (.bipush 24, 2) := by decide +kernel
theorem d_M_power_123 : decode b_M_power 123 = .ok (.if_icmp .ge 14, 3) := by decide +kernel
theorem d_M_power_126 : decode b_M_power 126 = .ok (.aload_n 0, 1) := by decide +kernel
theorem d_M_power_127 : decode b_M_power 127 = .ok (.getfield 72, 3) := by decide +kernel
theorem d_M_power_130 : decode b_M_power 130 = .ok (.iload_n 1, 1) := by decide +kernel
theorem d_M_power_131 : decode b_M_power 131 = .ok (.iaload, 1) := by decide +kernel
theorem d_M_power_132 : decode b_M_power 132 = .ok (.iconst 1, 1) := by decide +kernel
theorem d_M_power_133 : decode b_M_power 133 = .ok (.iadd, 1) := by decide +kernel
theorem d_M_power_134 : decode b_M_power 134 = .ok (.goto 5, 3) := by decide +kernel
theorem d_M_power_137 : decode b_M_power 137 = .ok (.bipush 24, 2) := by decide +kernel
theorem d_M_power_139 : decode b_M_power 139 = .ok (.iastore, 1) := by decide +kernel
theorem d_M_power_140 : decode b_M_power 140 = .ok (.aload_n 0, 1) := by decide +kernel
theorem d_M_power_141 : decode b_M_power 141 = .ok (.iload_n 1, 1) := by decide +kernel
theorem d_M_power_142 : decode b_M_power 142 = .ok (.invokevirtual 151, 3) := by decide +kernel
theorem d_M_power_145 : decode b_M_power 145 = .ok (.ireturn, 1) := by decide +kernel
theorem d_M_order_0 : decode b_M_order 0 = .ok (.aload_n 0, 1) := by decide +kernel
theorem d_M_order_1 : decode b_M_order 1 = .ok (.aload_n 0, 1) := by decide +kernel
theorem d_M_order_2 : decode b_M_order 2 = .ok (.iload_n 1, 1) := by decide +kernel
theorem d_M_order_3 : decode b_M_order 3 = .ok (.invokevirtual 105, 3) := by decide +kernel
theorem d_M_order_6 : decode b_M_order 6 = .ok (.ifCond .eq 7, 3) := by decide +kernel
theorem d_M_order_9 : decode b_M_order 9 = .ok (.iconst 1, 1) := by decide +kernel
theorem d_M_order_10 : decode b_M_order 10 = .ok (.goto 20, 3) := by decide +kernel
theorem d_M_order_13 : decode b_M_order 13 = .ok (.iload_n 2, 1) := by decide +kernel
theorem d_M_order_14 : decode b_M_order 14 = .ok (.i2l, 1) := by decide +kernel
theorem d_M_order_15 : decode b_M_order 15 = .ok (.lconst 0, 1) := by decide +kernel
theorem d_M_order_16 : decode b_M_order 16 = .ok (.ldc2_w 154, 3) := by decide +kernel
theorem d_M_order_19 : decode b_M_order 19 = .ok (.invokestatic 98, 3) := by decide +kernel
theorem d_M_order_22 : decode b_M_order 22 = .ok (.ifCond .eq 7, 3) := by decide +kernel
theorem d_M_order_25 : decode b_M_order 25 = .ok (.iconst 0, 1) := by decide +kernel
theorem d_M_order_26 : decode b_M_order 26 = .ok (.goto 4, 3) := by decide +kernel
theorem d_M_order_29 : decode b_M_order 29 = .ok (.iconst 2, 1) := by decide +kernel
theorem d_M_order_30 : decode b_M_order 30 = .ok (.putfield 88, 3) := by decide +kernel
theorem d_M_order_33 : decode b_M_order 33 = .ok (.aload_n 0, 1) := by decide +kernel
theorem d_M_order_34 : decode b_M_order 34 = .ok (.getfield 88, 3) := by decide +kernel
theorem d_M_order_37 : decode b_M_order 37 = .ok (.ifCond .gt 12, 3) := by decide +kernel
theorem d_M_order_40 : decode b_M_order 40 = .ok (.aload_n 0, 1) := by decide +kernel
theorem d_M_order_41 : decode b_M_order 41 = .ok (.getfield 156, 3) := by decide +kernel
theorem d_M_order_44 : decode b_M_order 44 = .ok (.bipush 16, 2) := by decide +kernel
theorem d_M_order_46 : decode b_M_order 46 = .ok (.if_icmp .ne 5, 3) := by decide +kernel
theorem d_M_order_49 : decode b_M_order 49 = .ok (.iconst 0, 1) := by decide +kernel
theorem d_M_order_50 : decode b_M_order 50 = .ok (.ireturn, 1) := by decide +kernel
theorem d_M_order_51 : decode b_M_order 51 = .ok (.aload_n 0, 1) := by decide +kernel
theorem d_M_order_52 : decode b_M_order 52 = .ok (.getfield 78, 3) := by decide +kernel
theorem d_M_order_55 : decode b_M_order 55 = .ok (.aload_n 0, 1) := by decide +kernel
theorem d_M_order_56 : decode b_M_order 56 = .ok (.getfield 159, 3) := by decide +kernel
theorem d_M_order_59 : decode b_M_order 59 = .ok (.iload_n 1, 1) := by decide +kernel
theorem d_M_order_60 : decode b_M_order 60 = .ok (.iastore, 1) := by decide +kernel
theorem d_M_order_61 : decode b_M_order 61 = .ok (.aload_n 0, 1) := by decide +kernel
theorem d_M_order_62 : decode b_M_order 62 = .ok (.getfield 81, 3) := by decide +kernel
theorem d_M_order_65 : decode b_M_order 65 = .ok (.aload_n 0, 1) := by decide +kernel
theorem d_M_order_66 : decode b_M_order 66 = .ok (.getfield 159, 3) := by decide +kernel
theorem d_M_order_69 : decode b_M_order 69 = .ok (.iload_n 2, 1) := by decide +kernel
theorem d_M_order_70 : decode b_M_order 70 = .ok (.iastore, 1) := by decide +kernel
theorem d_M_order_71 : decode b_M_order 71 = .ok (.aload_n 0, 1) := by decide +kernel
theorem d_M_order_72 : decode b_M_order 72 = .ok (.dup, 1) := by decide +kernel
theorem d_M_order_73 : decode b_M_order 73 = .ok (.getfield 159, 3) := by decide +kernel
theorem d_M_order_76 : decode b_M_order 76 = .ok (.iconst 1, 1) := by decide +kernel
theorem d_M_order_77 : decode b_M_order 77 = .ok (.iadd, 1) := by decide +kernel
theorem d_M_order_78 : decode b_M_order 78 = .ok (.putfield 159, 3) := by decide +kernel
theorem d_M_order_81 : decode b_M_order 81 = .ok (.aload_n 0, 1) := by decide +kernel
theorem d_M_order_82 : decode b_M_order 82 = .ok (.dup, 1) := by decide +kernel
theorem d_M_order_83 : decode b_M_order 83 = .ok (.getfield 156, 3) := by decide +kernel
theorem d_M_order_86 : decode b_M_order 86 = .ok (.iconst 1, 1) := by decide +kernel
theorem d_M_order_87 : decode b_M_order 87 = .ok (.iadd, 1) := by decide +kernel
theorem d_M_order_88 : decode b_M_order 88 = .ok (.putfield 156, 3) := by decide +kernel
theorem d_M_order_91 : decode b_M_order 91 = .ok (.iconst 1, 1) := by decide +kernel
theorem d_M_order_92 : decode b_M_order 92 = .ok (.ireturn, 1) := by decide +kernel
theorem d_M_isDue_0 : decode b_M_isDue 0 = .ok (.aload_n 0, 1) := by decide +kernel
theorem d_M_isDue_1 : decode b_M_isDue 1 = .ok (.getfield 7, 3) := by decide +kernel
theorem d_M_isDue_4 : decode b_M_isDue 4 = .ok (.aload_n 0, 1) := by decide +kernel
theorem d_M_isDue_5 : decode b_M_isDue 5 = .ok (.getfield 78, 3) := by decide +kernel
theorem d_M_isDue_8 : decode b_M_isDue 8 = .ok (.iload_n 1, 1) := by decide +kernel
theorem d_M_isDue_9 : decode b_M_isDue 9 = .ok (.iaload, 1) := by decide +kernel
theorem d_M_isDue_10 : decode b_M_isDue 10 = .ok (.iaload, 1) := by decide +kernel
theorem d_M_isDue_11 : decode b_M_isDue 11 = .ok (.iload_n 2, 1) := by decide +kernel
theorem d_M_isDue_12 : decode b_M_isDue 12 = .ok (.if_icmp .ne 17, 3) := by decide +kernel
theorem d_M_isDue_15 : decode b_M_isDue 15 = .ok (.aload_n 0, 1) := by decide +kernel
theorem d_M_isDue_16 : decode b_M_isDue 16 = .ok (.getfield 81, 3) := by decide +kernel
theorem d_M_isDue_19 : decode b_M_isDue 19 = .ok (.iload_n 1, 1) := by decide +kernel
theorem d_M_isDue_20 : decode b_M_isDue 20 = .ok (.iaload, 1) := by decide +kernel
theorem d_M_isDue_21 : decode b_M_isDue 21 = .ok (.iload_n 3, 1) := by decide +kernel
theorem d_M_isDue_22 : decode b_M_isDue 22 = .ok (.if_icmp .ge 7, 3) := by decide +kernel
theorem d_M_isDue_25 : decode b_M_isDue 25 = .ok (.iconst 1, 1) := by decide +kernel
theorem d_M_isDue_26 : decode b_M_isDue 26 = .ok (.goto 4, 3) := by decide +kernel
theorem d_M_isDue_29 : decode b_M_isDue 29 = .ok (.iconst 0, 1) := by decide +kernel
theorem d_M_isDue_30 : decode b_M_isDue 30 = .ok (.ireturn, 1) := by decide +kernel
theorem d_M_joined_0 : decode b_M_joined 0 = .ok (.aload_n 0, 1) := by decide +kernel
theorem d_M_joined_1 : decode b_M_joined 1 = .ok (.iload_n 1, 1) := by decide +kernel
theorem d_M_joined_2 : decode b_M_joined 2 = .ok (.invokestatic 94, 3) := by decide +kernel
theorem d_M_joined_5 : decode b_M_joined 5 = .ok (.ifCond .ne 7, 3) := by decide +kernel
theorem d_M_joined_8 : decode b_M_joined 8 = .ok (.iconst 1, 1) := by decide +kernel
theorem d_M_joined_9 : decode b_M_joined 9 = .ok (.goto 20, 3) := by decide +kernel
theorem d_M_joined_12 : decode b_M_joined 12 = .ok (.iload_n 2, 1) := by decide +kernel
theorem d_M_joined_13 : decode b_M_joined 13 = .ok (.i2l, 1) := by decide +kernel
theorem d_M_joined_14 : decode b_M_joined 14 = .ok (.lconst 0, 1) := by decide +kernel
theorem d_M_joined_15 : decode b_M_joined 15 = .ok (.ldc2_w 154, 3) := by decide +kernel
theorem d_M_joined_18 : decode b_M_joined 18 = .ok (.invokestatic 98, 3) := by decide +kernel
theorem d_M_joined_21 : decode b_M_joined 21 = .ok (.ifCond .eq 7, 3) := by decide +kernel
theorem d_M_joined_24 : decode b_M_joined 24 = .ok (.iconst 0, 1) := by decide +kernel
theorem d_M_joined_25 : decode b_M_joined 25 = .ok (.goto 4, 3) := by decide +kernel
theorem d_M_joined_28 : decode b_M_joined 28 = .ok (.iconst 2, 1) := by decide +kernel
theorem d_M_joined_29 : decode b_M_joined 29 = .ok (.putfield 88, 3) := by decide +kernel
theorem d_M_joined_32 : decode b_M_joined 32 = .ok (.aload_n 0, 1) := by decide +kernel
theorem d_M_joined_33 : decode b_M_joined 33 = .ok (.getfield 88, 3) := by decide +kernel
theorem d_M_joined_36 : decode b_M_joined 36 = .ok (.ifCond .le 5, 3) := by decide +kernel
theorem d_M_joined_39 : decode b_M_joined 39 = .ok (.iconst 0, 1) := by decide +kernel
theorem d_M_joined_40 : decode b_M_joined 40 = .ok (.ireturn, 1) := by decide +kernel
theorem d_M_joined_41 : decode b_M_joined 41 = .ok (.iconst 0, 1) := by decide +kernel
theorem d_M_joined_42 : decode b_M_joined 42 = .ok (.istore_n 3, 1) := by decide +kernel
theorem d_M_joined_43 : decode b_M_joined 43 = .ok (.iconst 0, 1) := by decide +kernel
theorem d_M_joined_44 : decode b_M_joined 44 = .ok (.istore 4, 2) := by decide +kernel
theorem d_M_joined_46 : decode b_M_joined 46 = .ok (.iload 4, 2) := by decide +kernel
theorem d_M_joined_48 : decode b_M_joined 48 = .ok (.aload_n 0, 1) := by decide +kernel
theorem d_M_joined_49 : decode b_M_joined 49 = .ok (.getfield 159, 3) := by decide +kernel
theorem d_M_joined_52 : decode b_M_joined 52 = .ok (.if_icmp .ge 32, 3) := by decide +kernel
theorem d_M_joined_55 : decode b_M_joined 55 = .ok (.iload_n 3, 1) := by decide +kernel
theorem d_M_joined_56 : decode b_M_joined 56 = .ok (.ifCond .ne 16, 3) := by decide +kernel
theorem d_M_joined_59 : decode b_M_joined 59 = .ok (.aload_n 0, 1) := by decide +kernel
theorem d_M_joined_60 : decode b_M_joined 60 = .ok (.iload 4, 2) := by decide +kernel
theorem d_M_joined_62 : decode b_M_joined 62 = .ok (.iload_n 1, 1) := by decide +kernel
theorem d_M_joined_63 : decode b_M_joined 63 = .ok (.iload_n 2, 1) := by decide +kernel
theorem d_M_joined_64 : decode b_M_joined 64 = .ok (.iconst 2, 1) := by decide +kernel
theorem d_M_joined_65 : decode b_M_joined 65 = .ok (.iadd, 1) := by decide +kernel
theorem d_M_joined_66 : decode b_M_joined 66 = .ok (.invokevirtual 162, 3) := by decide +kernel
theorem d_M_joined_69 : decode b_M_joined 69 = .ok (.ifCond .eq 7, 3) := by decide +kernel
theorem d_M_joined_72 : decode b_M_joined 72 = .ok (.iconst 1, 1) := by decide +kernel
theorem d_M_joined_73 : decode b_M_joined 73 = .ok (.goto 4, 3) := by decide +kernel
theorem d_M_joined_76 : decode b_M_joined 76 = .ok (.iconst 0, 1) := by decide +kernel
theorem d_M_joined_77 : decode b_M_joined 77 = .ok (.istore_n 3, 1) := by decide +kernel
theorem d_M_joined_78 : decode b_M_joined 78 = .ok (.iinc 4 1, 3) := by decide +kernel
theorem d_M_joined_81 : decode b_M_joined 81 = .ok (.goto (-35), 3) := by decide +kernel
theorem d_M_joined_84 : decode b_M_joined 84 = .ok (.iconst 0, 1) := by decide +kernel
theorem d_M_joined_85 : decode b_M_joined 85 = .ok (.istore 4, 2) := by decide +kernel
theorem d_M_joined_87 : decode b_M_joined 87 = .ok (.iconst 0, 1) := by decide +kernel
theorem d_M_joined_88 : decode b_M_joined 88 = .ok (.istore 5, 2) := by decide +kernel
theorem d_M_joined_90 : decode b_M_joined 90 = .ok (.iload 5, 2) := by decide +kernel
theorem d_M_joined_92 : decode b_M_joined 92 = .ok (.aload_n 0, 1) := by decide +kernel
theorem d_M_joined_93 : decode b_M_joined 93 = .ok (.getfield 159, 3) := by decide +kernel
theorem d_M_joined_96 : decode b_M_joined 96 = .ok (.if_icmp .ge 58, 3) := by decide +kernel
theorem d_M_joined_99 : decode b_M_joined 99 = .ok (.iload_n 3, 1) := by decide +kernel
theorem d_M_joined_100 : decode b_M_joined 100 = .ok (.ifCond .eq 17, 3) := by decide +kernel
theorem d_M_joined_103 : decode b_M_joined 103 = .ok (.aload_n 0, 1) := by decide +kernel
theorem d_M_joined_104 : decode b_M_joined 104 = .ok (.iload 5, 2) := by decide +kernel
theorem d_M_joined_106 : decode b_M_joined 106 = .ok (.iload_n 1, 1) := by decide +kernel
theorem d_M_joined_107 : decode b_M_joined 107 = .ok (.iload_n 2, 1) := by decide +kernel
theorem d_M_joined_108 : decode b_M_joined 108 = .ok (.bipush 7, 2) := by decide +kernel
theorem d_M_joined_110 : decode b_M_joined 110 = .ok (.iadd, 1) := by decide +kernel
theorem d_M_joined_111 : decode b_M_joined 111 = .ok (.invokevirtual 162, 3) := by decide +kernel
theorem d_M_joined_114 : decode b_M_joined 114 = .ok (.ifCond .ne 34, 3) := by decide +kernel
theorem d_M_joined_117 : decode b_M_joined 117 = .ok (.aload_n 0, 1) := by decide +kernel
theorem d_M_joined_118 : decode b_M_joined 118 = .ok (.getfield 78, 3) := by decide +kernel
theorem d_M_joined_121 : decode b_M_joined 121 = .ok (.iload 4, 2) := by decide +kernel
theorem d_M_joined_123 : decode b_M_joined 123 = .ok (.aload_n 0, 1) := by decide +kernel
theorem d_M_joined_124 : decode b_M_joined 124 = .ok (.getfield 78, 3) := by decide +kernel
theorem d_M_joined_127 : decode b_M_joined 127 = .ok (.iload 5, 2) := by decide +kernel
theorem d_M_joined_129 : decode b_M_joined 129 = .ok (.iaload, 1) := by decide +kernel
theorem d_M_joined_130 : decode b_M_joined 130 = .ok (.iastore, 1) := by decide +kernel
theorem d_M_joined_131 : decode b_M_joined 131 = .ok (.aload_n 0, 1) := by decide +kernel
theorem d_M_joined_132 : decode b_M_joined 132 = .ok (.getfield 81, 3) := by decide +kernel
theorem d_M_joined_135 : decode b_M_joined 135 = .ok (.iload 4, 2) := by decide +kernel
theorem d_M_joined_137 : decode b_M_joined 137 = .ok (.aload_n 0, 1) := by decide +kernel
theorem d_M_joined_138 : decode b_M_joined 138 = .ok (.getfield 81, 3) := by decide +kernel
theorem d_M_joined_141 : decode b_M_joined 141 = .ok (.iload 5, 2) := by decide +kernel
theorem d_M_joined_143 : decode b_M_joined 143 = .ok (.iaload, 1) := by decide +kernel
theorem d_M_joined_144 : decode b_M_joined 144 = .ok (.iastore, 1) := by decide +kernel
theorem d_M_joined_145 : decode b_M_joined 145 = .ok (.iinc 4 1, 3) := by decide +kernel
theorem d_M_joined_148 : decode b_M_joined 148 = .ok (.iinc 5 1, 3) := by decide +kernel
theorem d_M_joined_151 : decode b_M_joined 151 = .ok (.goto (-61), 3) := by decide +kernel
theorem d_M_joined_154 : decode b_M_joined 154 = .ok (.aload_n 0, 1) := by decide +kernel
theorem d_M_joined_155 : decode b_M_joined 155 = .ok (.getfield 159, 3) := by decide +kernel
theorem d_M_joined_158 : decode b_M_joined 158 = .ok (.iload 4, 2) := by decide +kernel
theorem d_M_joined_160 : decode b_M_joined 160 = .ok (.isub, 1) := by decide +kernel
theorem d_M_joined_161 : decode b_M_joined 161 = .ok (.istore 5, 2) := by decide +kernel
theorem d_M_joined_163 : decode b_M_joined 163 = .ok (.aload_n 0, 1) := by decide +kernel
theorem d_M_joined_164 : decode b_M_joined 164 = .ok (.iload 4, 2) := by decide +kernel
theorem d_M_joined_166 : decode b_M_joined 166 = .ok (.putfield 159, 3) := by decide +kernel
theorem d_M_joined_169 : decode b_M_joined 169 = .ok (.iload 5, 2) := by decide +kernel
theorem d_M_joined_171 : decode b_M_joined 171 = .ok (.ireturn, 1) := by decide +kernel
theorem d_M_open_0 : decode b_M_open 0 = .ok (.aload_n 0, 1) := by decide +kernel
theorem d_M_open_1 : decode b_M_open 1 = .ok (.iconst 0, 1) := by decide +kernel
theorem d_M_open_2 : decode b_M_open 2 = .ok (.putfield 88, 3) := by decide +kernel
theorem d_M_open_5 : decode b_M_open 5 = .ok (.aload_n 0, 1) := by decide +kernel
theorem d_M_open_6 : decode b_M_open 6 = .ok (.getfield 159, 3) := by decide +kernel
theorem d_M_open_9 : decode b_M_open 9 = .ok (.ireturn, 1) := by decide +kernel
theorem d_M_chip_0 : decode b_M_chip 0 = .ok (.iload_n 1, 1) := by decide +kernel
theorem d_M_chip_1 : decode b_M_chip 1 = .ok (.i2l, 1) := by decide +kernel
theorem d_M_chip_2 : decode b_M_chip 2 = .ok (.lconst 0, 1) := by decide +kernel
theorem d_M_chip_3 : decode b_M_chip 3 = .ok (.ldc2_w 39, 3) := by decide +kernel
theorem d_M_chip_6 : decode b_M_chip 6 = .ok (.invokestatic 98, 3) := by decide +kernel
theorem d_M_chip_9 : decode b_M_chip 9 = .ok (.ifCond .eq 30, 3) := by decide +kernel
theorem d_M_chip_12 : decode b_M_chip 12 = .ok (.iload_n 3, 1) := by decide +kernel
theorem d_M_chip_13 : decode b_M_chip 13 = .ok (.i2l, 1) := by decide +kernel
theorem d_M_chip_14 : decode b_M_chip 14 = .ok (.lconst 1, 1) := by decide +kernel
theorem d_M_chip_15 : decode b_M_chip 15 = .ok (.ldc2_w 119, 3) := by decide +kernel
theorem d_M_chip_18 : decode b_M_chip 18 = .ok (.invokestatic 98, 3) := by decide +kernel
theorem d_M_chip_21 : decode b_M_chip 21 = .ok (.ifCond .eq 18, 3) := by decide +kernel
theorem d_M_chip_24 : decode b_M_chip 24 = .ok (.iload_n 2, 1) := by decide +kernel
theorem d_M_chip_25 : decode b_M_chip 25 = .ok (.i2l, 1) := by decide +kernel
theorem d_M_chip_26 : decode b_M_chip 26 = .ok (.lconst 0, 1) := by decide +kernel
theorem d_M_chip_27 : decode b_M_chip 27 = .ok (.iload_n 3, 1) := by decide +kernel
theorem d_M_chip_28 : decode b_M_chip 28 = .ok (.i2l, 1) := by decide +kernel
theorem d_M_chip_29 : decode b_M_chip 29 = .ok (.invokestatic 98, 3) := by decide +kernel
theorem d_M_chip_32 : decode b_M_chip 32 = .ok (.ifCond .eq 7, 3) := by decide +kernel
theorem d_M_chip_35 : decode b_M_chip 35 = .ok (.iconst 1, 1) := by decide +kernel
theorem d_M_chip_36 : decode b_M_chip 36 = .ok (.goto 4, 3) := by decide +kernel
theorem d_M_chip_39 : decode b_M_chip 39 = .ok (.iconst 0, 1) := by decide +kernel
theorem d_M_chip_40 : decode b_M_chip 40 = .ok (.istore 5, 2) := by decide +kernel
theorem d_M_chip_42 : decode b_M_chip 42 = .ok (.aload_n 0, 1) := by decide +kernel
theorem d_M_chip_43 : decode b_M_chip 43 = .ok (.iload 4, 2) := by decide +kernel
theorem d_M_chip_45 : decode b_M_chip 45 = .ok (.ifCond .eq 13, 3) := by decide +kernel
theorem d_M_chip_48 : decode b_M_chip 48 = .ok (.iload 4, 2) := by decide +kernel
theorem d_M_chip_50 : decode b_M_chip 50 = .ok (.iconst 1, 1) := by decide +kernel
theorem d_M_chip_51 : decode b_M_chip 51 = .ok (.if_icmp .eq 7, 3) := by decide +kernel
theorem d_M_chip_54 : decode b_M_chip 54 = .ok (.iconst 1, 1) := by decide +kernel
theorem d_M_chip_55 : decode b_M_chip 55 = .ok (.goto 13, 3) := by decide +kernel
theorem d_M_chip_58 : decode b_M_chip 58 = .ok (.iload 5, 2) := by decide +kernel
theorem d_M_chip_60 : decode b_M_chip 60 = .ok (.ifCond .eq 7, 3) := by decide +kernel
theorem d_M_chip_63 : decode b_M_chip 63 = .ok (.iconst 0, 1) := by decide +kernel
theorem d_M_chip_64 : decode b_M_chip 64 = .ok (.goto 4, 3) := by decide +kernel
theorem d_M_chip_67 : decode b_M_chip 67 = .ok (.iconst 2, 1) := by decide +kernel
theorem d_M_chip_68 : decode b_M_chip 68 = .ok (.putfield 88, 3) := by decide +kernel
theorem d_M_chip_71 : decode b_M_chip 71 = .ok (.aload_n 0, 1) := by decide +kernel
theorem d_M_chip_72 : decode b_M_chip 72 = .ok (.getfield 88, 3) := by decide +kernel
theorem d_M_chip_75 : decode b_M_chip 75 = .ok (.ifCond .le 5, 3) := by decide +kernel
theorem d_M_chip_78 : decode b_M_chip 78 = .ok (.iconst 0, 1) := by decide +kernel
theorem d_M_chip_79 : decode b_M_chip 79 = .ok (.ireturn, 1) := by decide +kernel
theorem d_M_chip_80 : decode b_M_chip 80 = .ok (.ldc2_w 132, 3) := by decide +kernel
theorem d_M_chip_83 : decode b_M_chip 83 = .ok (.iload_n 1, 1) := by decide +kernel
theorem d_M_chip_84 : decode b_M_chip 84 = .ok (.i2l, 1) := by decide +kernel
theorem d_M_chip_85 : decode b_M_chip 85 = .ok (.lmul, 1) := by decide +kernel
theorem d_M_chip_86 : decode b_M_chip 86 = .ok (.iload_n 1, 1) := by decide +kernel
theorem d_M_chip_87 : decode b_M_chip 87 = .ok (.i2l, 1) := by decide +kernel
theorem d_M_chip_88 : decode b_M_chip 88 = .ok (.lmul, 1) := by decide +kernel
theorem d_M_chip_89 : decode b_M_chip 89 = .ok (.iload_n 2, 1) := by decide +kernel
theorem d_M_chip_90 : decode b_M_chip 90 = .ok (.i2l, 1) := by decide +kernel
theorem d_M_chip_91 : decode b_M_chip 91 = .ok (.lmul, 1) := by decide +kernel
theorem d_M_chip_92 : decode b_M_chip 92 = .ok (.iload_n 3, 1) := by decide +kernel
theorem d_M_chip_93 : decode b_M_chip 93 = .ok (.iload_n 2, 1) := by decide +kernel
theorem d_M_chip_94 : decode b_M_chip 94 = .ok (.isub, 1) := by decide +kernel
theorem d_M_chip_95 : decode b_M_chip 95 = .ok (.i2l, 1) := by decide +kernel
theorem d_M_chip_96 : decode b_M_chip 96 = .ok (.lmul, 1) := by decide +kernel
theorem d_M_chip_97 : decode b_M_chip 97 = .ok (.lstore 6, 2) := by decide +kernel
theorem d_M_chip_99 : decode b_M_chip 99 = .ok (.iload_n 3, 1) := by decide +kernel
theorem d_M_chip_100 : decode b_M_chip 100 = .ok (.i2l, 1) := by decide +kernel
theorem d_M_chip_101 : decode b_M_chip 101 = .ok (.iload_n 3, 1) := by decide +kernel
theorem d_M_chip_102 : decode b_M_chip 102 = .ok (.i2l, 1) := by decide +kernel
theorem d_M_chip_103 : decode b_M_chip 103 = .ok (.lmul, 1) := by decide +kernel
theorem d_M_chip_104 : decode b_M_chip 104 = .ok (.lstore 8, 2) := by decide +kernel
theorem d_M_chip_106 : decode b_M_chip 106 = .ok (.lconst 0, 1) := by decide +kernel
theorem d_M_chip_107 : decode b_M_chip 107 = .ok (.lstore 10, 2) := by decide +kernel
theorem d_M_chip_109 : decode b_M_chip 109 = .ok (.ldc2_w 166, 3) := by decide +kernel
theorem d_M_chip_112 : decode b_M_chip 112 = .ok (.lstore 12, 2) := by decide +kernel
theorem d_M_chip_114 : decode b_M_chip 114 = .ok (.lload 12, 2) := by decide +kernel
theorem d_M_chip_116 : decode b_M_chip 116 = .ok (.lload 10, 2) := by decide +kernel
theorem d_M_chip_118 : decode b_M_chip 118 = .ok (.lsub, 1) := by decide +kernel
theorem d_M_chip_119 : decode b_M_chip 119 = .ok (.lconst 1, 1) := by decide +kernel
theorem d_M_chip_120 : decode b_M_chip 120 = .ok (.lcmp, 1) := by decide +kernel
theorem d_M_chip_121 : decode b_M_chip 121 = .ok (.ifCond .le 42, 3) := by decide +kernel
theorem d_M_chip_124 : decode b_M_chip 124 = .ok (.lload 10, 2) := by decide +kernel
theorem d_M_chip_126 : decode b_M_chip 126 = .ok (.lload 12, 2) := by decide +kernel
theorem d_M_chip_128 : decode b_M_chip 128 = .ok (.ladd, 1) := by decide +kernel
theorem d_M_chip_129 : decode b_M_chip 129 = .ok (.ldc2_w 140, 3) := by decide +kernel
theorem d_M_chip_132 : decode b_M_chip 132 = .ok (.ldiv, 1) := by decide +kernel
theorem d_M_chip_133 : decode b_M_chip 133 = .ok (.lstore 14, 2) := by decide +kernel
theorem d_M_chip_135 : decode b_M_chip 135 = .ok (.lload 14, 2) := by decide +kernel
theorem d_M_chip_137 : decode b_M_chip 137 = .ok (.lload 14, 2) := by decide +kernel
theorem d_M_chip_139 : decode b_M_chip 139 = .ok (.lmul, 1) := by decide +kernel
theorem d_M_chip_140 : decode b_M_chip 140 = .ok (.lload 8, 2) := by decide +kernel
theorem d_M_chip_142 : decode b_M_chip 142 = .ok (.lmul, 1) := by decide +kernel
theorem d_M_chip_143 : decode b_M_chip 143 = .ok (.lload 6, 2) := by decide +kernel
theorem d_M_chip_145 : decode b_M_chip 145 = .ok (.lcmp, 1) := by decide +kernel
theorem d_M_chip_146 : decode b_M_chip 146 = .ok (.ifCond .gt 10, 3) := by decide +kernel
theorem d_M_chip_149 : decode b_M_chip 149 = .ok (.lload 14, 2) := by decide +kernel
theorem d_M_chip_151 : decode b_M_chip 151 = .ok (.lstore 10, 2) := by decide +kernel
theorem d_M_chip_153 : decode b_M_chip 153 = .ok (.goto 7, 3) := by decide +kernel
theorem d_M_chip_156 : decode b_M_chip 156 = .ok (.lload 14, 2) := by decide +kernel
theorem d_M_chip_158 : decode b_M_chip 158 = .ok (.lstore 12, 2) := by decide +kernel
theorem d_M_chip_160 : decode b_M_chip 160 = .ok (.goto (-46), 3) := by decide +kernel
theorem d_M_chip_163 : decode b_M_chip 163 = .ok (.iload 4, 2) := by decide +kernel
theorem d_M_chip_165 : decode b_M_chip 165 = .ok (.ifCond .eq 17, 3) := by decide +kernel
theorem d_M_chip_168 : decode b_M_chip 168 = .ok (.lload 10, 2) := by decide +kernel
theorem d_M_chip_170 : decode b_M_chip 170 = .ok (.lload 10, 2) := by decide +kernel
theorem d_M_chip_172 : decode b_M_chip 172 = .ok (.lmul, 1) := by decide +kernel
theorem d_M_chip_173 : decode b_M_chip 173 = .ok (.lload 8, 2) := by decide +kernel
theorem d_M_chip_175 : decode b_M_chip 175 = .ok (.lmul, 1) := by decide +kernel
theorem d_M_chip_176 : decode b_M_chip 176 = .ok (.lload 6, 2) := by decide +kernel
theorem d_M_chip_178 : decode b_M_chip 178 = .ok (.lcmp, 1) := by decide +kernel
theorem d_M_chip_179 : decode b_M_chip 179 = .ok (.ifCond .ne 8, 3) := by decide +kernel
theorem d_M_chip_182 : decode b_M_chip 182 = .ok (.lload 10, 2) := by decide +kernel
theorem d_M_chip_184 : decode b_M_chip 184 = .ok (.goto 7, 3) := by decide +kernel
theorem d_M_chip_187 : decode b_M_chip 187 = .ok (.lload 10, 2) := by decide +kernel
theorem d_M_chip_189 : decode b_M_chip 189 = .ok (.lconst 1, 1) := by decide +kernel
theorem d_M_chip_190 : decode b_M_chip 190 = .ok (.ladd, 1) := by decide +kernel
theorem d_M_chip_191 : decode b_M_chip 191 = .ok (.l2i, 1) := by decide +kernel
theorem d_M_chip_192 : decode b_M_chip 192 = .ok (.ireturn, 1) := by decide +kernel
end
section
/-! worlds by roles: ad r is the address of role r, G r what its cell holds -/
abbrev mG : Type := Nat → Option va_E
abbrev mU : Type := (Nat → Nat) × mG
def mw (D : va_G) (cl : List vw_C) (ad : Nat → Nat) (G : mG) (H : Heap) : Prop :=
  (∀ (r : Nat) (e : va_E), G r = some e → va_at D cl (ad r, e) H) ∧ (∀ (r r' : Nat) (e e' : va_E), G r = some e → G r' = some e' → ad r = ad r' → r = r')
def mA (ad : Nat → Nat) (G : mG) (sz : Nat) : Nat → Prop := fun q => (∃ (r : Nat) (e : va_E), G r = some e ∧ ad r = q) ∨ sz ≤ q
def mS (D : va_G) (cl : List vw_C) (A : Nat → Prop) (H0 : Heap) (ad : Nat → Nat) (G : mG) (H : Heap) (locs : List Loc) : Prop :=
  mw D cl ad G H ∧ (∀ (r : Nat) (e : va_E), G r = some e → A (ad r)) ∧ va_S A H0 H locs
/-- what the machine itself holds for throws: two statics -/
def mX (A : Nat → Prop) (U : State) (H : Heap) : Prop := vx_Zq Bundle.tN "UNASSIGNED_STACK" Bundle.steD A U H ∧ vx_Zq Bundle.tN "SUPPRESSED_SENTINEL" Bundle.listD A U H
/-- the texts: pool places of a holder with their words -/
def mT (tx : List (String × Nat × String)) (U : State) : Prop := ∀ q ∈ tx, ∃ sa : Nat, vk_R q.1 q.2.1 q.2.2 sa U
/-- words that move with the tables: arrays over a type, what is castable and what isn't, what is declared -/
def mIO : String := "java/lang/IndexOutOfBoundsException"
def mIA : String := "java/lang/IllegalArgumentException"
def mIS : String := "java/lang/IllegalStateException"
def mYw : List Cond := [.castable "java/lang/IndexOutOfBoundsException" "java/lang/IndexOutOfBoundsException", .castable "java/lang/IllegalArgumentException" "java/lang/IllegalArgumentException", .castable "java/lang/IllegalStateException" "java/lang/IllegalStateException",
  .declares ⟨"java/lang/RuntimeException", "<init>", "(Ljava/lang/String;)V"⟩, .declares ⟨"java/lang/Exception", "<init>", "(Ljava/lang/String;)V"⟩, .declares ⟨"java/lang/Throwable", "<init>", "(Ljava/lang/String;)V"⟩]
theorem mYw_on : ∀ w ∈ mYw, w.onTables = true := by decide +kernel
theorem mYw_warm {s U : State} (hW : s.WarmedH U.vm) : ∀ w ∈ mYw, va_Nw w s → va_Nw w U := by
  intro w hw
  simp only [mYw, List.mem_cons, List.not_mem_nil, or_false] at hw
  rcases hw with h | h | h | h | h | h
  · rw [h]; exact va_Nw.warmC hW
  · rw [h]; exact va_Nw.warmC hW
  · rw [h]; exact va_Nw.warmC hW
  · rw [h]; exact va_Nw.warmD hW
  · rw [h]; exact va_Nw.warmD hW
  · rw [h]; exact va_Nw.warmD hW
def mY (U : State) : Prop := (va_AO "EdgeWear$Sort" U ∧ va_AO "EdgeWear$Tool" U ∧ va_AO "EdgeWear$Order" U) ∧ (∀ w ∈ mYw, va_Nw w U) ∧ va_Nc mIA mIO U ∧ va_Nc mIS mIO U ∧ va_Nc mIS mIA U
theorem mY.warm {s U : State} (hW : s.WarmedH U.vm) (h : mY s) : mY U := by
  obtain ⟨⟨a1, a2, a3⟩, b, c1, c2, c3⟩ := h
  exact ⟨⟨va_AO.moved hW.alike a1, va_AO.moved hW.alike a2, va_AO.moved hW.alike a3⟩, fun w hw => mYw_warm hW w hw (b w hw), va_Nc.moved hW.alike c1, va_Nc.moved hW.alike c2, va_Nc.moved hW.alike c3⟩
theorem mY.same {u U : State} (hv : u.vm = U.vm) (h : mY u) : mY U := by
  obtain ⟨⟨a1, a2, a3⟩, b, c1, c2, c3⟩ := h
  have hA : u.vm.Alike U.vm := by rw [hv]; exact Vm.Alike.refl _
  exact ⟨⟨va_AO.moved hA a1, va_AO.moved hA a2, va_AO.moved hA a3⟩, fun w hw => va_Nw.same (mYw_on w hw) hv (b w hw), va_Nc.moved hA c1, va_Nc.moved hA c2, va_Nc.moved hA c3⟩
theorem mY.use {args : Array Value} {s : State} (h : mY s) {w : Cond} (hw : w ∈ mYw) : w.before args s = true := va_Nw.use (mYw_on w hw) (h.2.1 w hw)
def mC (D : va_G) (cl : List vw_C) (tys : List (ClassId × FieldType)) (tx : List (String × Nat × String)) (A : Nat → Prop) (U : State) (H : Heap) : Prop := va_K D cl tys U ∧ mX A U H ∧ mT tx U ∧ mY U
theorem mA.in {ad : Nat → Nat} {G : mG} {sz r : Nat} {e : va_E} (h : G r = some e) : mA ad G sz (ad r) := Or.inl ⟨r, e, h, rfl⟩
theorem mX.to {A B : Nat → Prop} {u U : State} {H H1 : Heap} (h : mX A u H) (hvm : u.vm.Alike U.vm) (hq : ∀ a : Nat, a < H.size → ¬ A a → H1[a]? = H[a]?) (hAB : ∀ q, B q → A q) : mX B U H1 :=
  ⟨((vx_Zq.moved hvm h.1).kept hq).narrow hAB, ((vx_Zq.moved hvm h.2).kept hq).narrow hAB⟩
theorem mT.warm {tx : List (String × Nat × String)} {s U : State} (hW : s.WarmedH U.vm) (h : mT tx s) : mT tx U := fun q hq => by
  obtain ⟨sa, h1⟩ := h q hq
  exact ⟨sa, vk_R.warm hW h1⟩
theorem mC.to {D : va_G} {cl : List vw_C} {tys : List (ClassId × FieldType)} {tx : List (String × Nat × String)} {A B : Nat → Prop} {s U : State} {H H1 : Heap} (h : mC D cl tys tx A s H) (hW : s.WarmedH U.vm) (hq : ∀ a : Nat, a < H.size → ¬ A a → H1[a]? = H[a]?) (hAB : ∀ q, B q → A q) : mC D cl tys tx B U H1 :=
  ⟨va_K.moved hW.alike h.1, h.2.1.to hW.alike hq hAB, h.2.2.1.warm hW, h.2.2.2.warm hW⟩
theorem mS.start {D : va_G} {cl : List vw_C} {ad : Nat → Nat} {G : mG} {H : Heap} (h : mw D cl ad G H) : mS D cl (mA ad G H.size) H ad G H [] := ⟨h, fun r e hr => mA.in hr, va_S.rf⟩
theorem mS.free {D : va_G} {cl : List vw_C} {A : Nat → Prop} {H0 H : Heap} {ad : Nat → Nat} {G : mG} {locs : List Loc} (hm : mS D cl A H0 ad G H locs) (hA : ∀ q, H0.size ≤ q → A q) : ∀ q, mA ad G H.size q → A q := by
  intro q h
  rcases h with ⟨r, e, h1, h2⟩ | h
  · rw [← h2]; exact hm.2.1 r e h1
  · exact hA q (Nat.le_trans hm.2.2.1 h)
theorem mS.set {D : va_G} {cl : List vw_C} {A : Nat → Prop} {H0 H H1 : Heap} {ad : Nat → Nat} {G : mG} {locs : List Loc} {r k : Nat} {e0 e : va_E} (hm : mS D cl A H0 ad G H locs) (he : G r = some e0) (h1 : va_at D cl (ad r, e) H1) (z : H1.size = H.size) (oq : ∀ q : Nat, q ≠ ad r → H1[q]? = H[q]?) : mS D cl A H0 ad (va_up G r (some e)) H1 (locs ++ [⟨ad r, k⟩]) := by
  obtain ⟨⟨hP, hI⟩, hD, hS⟩ := hm
  have f : ∀ (r' : Nat) (e' : va_E), va_up G r (some e) r' = some e' → ∃ e'' : va_E, G r' = some e'' := by
    intro r' e' h'
    by_cases hr : r' = r
    · exact ⟨e0, by rw [hr]; exact he⟩
    · rw [va_up_ne _ _ hr] at h'
      exact ⟨e', h'⟩
  refine ⟨⟨fun r' e' h' => ?_, fun r1 r2 e1 e2 h1 h2 hh => ?_⟩, fun r' e' h' => ?_, hS.put z oq (hD r _ he)⟩
  · by_cases hr : r' = r
    · subst hr
      rw [va_up_self] at h'
      cases h'
      exact h1
    · rw [va_up_ne _ _ hr] at h'
      exact (hP r' e' h').kept (oq _ (fun q => hr (hI _ _ _ _ h' he q)))
  · obtain ⟨e3, h3⟩ := f r1 e1 h1
    obtain ⟨e4, h4⟩ := f r2 e2 h2
    exact hI _ _ _ _ h3 h4 hh
  · obtain ⟨e3, h3⟩ := f r' e' h'
    exact hD _ _ h3
theorem mS.push {D : va_G} {cl : List vw_C} {A : Nat → Prop} {H0 H H1 : Heap} {ad : Nat → Nat} {G : mG} {locs : List Loc} {r : Nat} {e : va_E} (hm : mS D cl A H0 ad G H locs) (hA : ∀ q, H0.size ≤ q → A q) (hr : G r = none) (h1 : va_at D cl (H.size, e) H1) (z : H.size ≤ H1.size) (o1 : ∀ q : Nat, q < H.size → H1[q]? = H[q]?) : mS D cl A H0 (va_up ad r H.size) (va_up G r (some e)) H1 locs := by
  obtain ⟨⟨hP, hI⟩, hD, hS⟩ := hm
  have lt : ∀ (r' : Nat) (e' : va_E), G r' = some e' → ad r' < H.size := fun r' e' h' => (hP r' e' h').lt
  refine ⟨⟨fun r' e' h' => ?_, fun r1 r2 e1 e2 h1 h2 hh => ?_⟩, fun r' e' h' => ?_, ⟨Nat.le_trans hS.1 z, fun x g1 g2 => (o1 x (Nat.lt_of_lt_of_le g1 hS.1)).trans (hS.2.1 x g1 g2), hS.2.2⟩⟩
  · by_cases hq : r' = r
    · subst hq
      rw [va_up_self] at h'
      cases h'
      rw [va_up_self]
      exact h1
    · rw [va_up_ne _ _ hq] at h'
      rw [va_up_ne _ _ hq]
      exact (hP r' e' h').kept (o1 _ (lt _ _ h'))
  · by_cases hq1 : r1 = r
    · by_cases hq2 : r2 = r
      · rw [hq1, hq2]
      · rw [va_up_ne _ _ hq2] at h2
        rw [hq1, va_up_self, va_up_ne _ _ hq2] at hh
        have := lt _ _ h2
        omega
    · rw [va_up_ne _ _ hq1] at h1
      by_cases hq2 : r2 = r
      · rw [hq2, va_up_self, va_up_ne _ _ hq1] at hh
        have := lt _ _ h1
        omega
      · rw [va_up_ne _ _ hq2] at h2
        rw [va_up_ne _ _ hq1, va_up_ne _ _ hq2] at hh
        exact hI _ _ _ _ h1 h2 hh
  · by_cases hq : r' = r
    · rw [hq, va_up_self]
      exact hA _ hS.1
    · rw [va_up_ne _ _ hq] at h'
      rw [va_up_ne _ _ hq]
      exact hD _ _ h'
theorem mS.one {D : va_G} {cl : List vw_C} {A : Nat → Prop} {H0 H : Heap} {ad : Nat → Nat} {G : mG} {locs : List Loc} {r : Nat} {e : va_E} (hm : mS D cl A H0 ad G H locs) (he : G r = some e) : va_P D cl [(ad r, e)] H := by
  intro k q hk
  have hz : k < 1 := (List.getElem?_eq_some_iff.mp hk).1
  rw [show k = 0 by omega] at hk
  cases hk
  exact hm.1.1 r e he
section MROWS
variable {p : Program} {l : Launch} {e : Env} {R : Room} {s : State} {m : MethodId} {args : Array Value} {below : List Frame} {meth : Method} {c : Code} {H : Heap} {locs : List Loc} {cells slots : Nat} {Q : State → Prop}
variable {cc : ByteArray} {pc : Nat} {ls : Array Slot} {rest : List Value} {D : va_G} {cl : List vw_C} {A : Nat → Prop} {a : Nat} {tys : List (ClassId × FieldType)} {H0 : Heap} {ad : Nat → Nat} {G : mG}
theorem m_get (hexec : p.tables.exec = Jvm.exec) (hb : c.code = cc) {own ref C : String} {T : u_T} {N ci index : Nat} {Ts : List Cond} (hts : ∀ w ∈ Ts, w.before args s = true) (hin : ∀ w ∈ u_ws C T N, w ∈ Ts) (hown : s.vm.findClass own = some m.cls) (hK : va_K D cl tys s) (hm : mS D cl A H0 ad G H locs) (r : Nat) (ea : a = ad r) {fs : List Value} (he : G r = some (.inr (ci, fs))) (hc : cl[ci]? = some (C, T, N)) (k : Nat) (hk : k < N) (hlink : (Cond.fieldLink own index ref (T k).2.1 (T k).2.2.1).before args s = true) (hsame : ∀ x, s.fieldFound? (T k).1 (T k).2.1 (T k).2.2.1 = some x → s.fieldFound? ref (T k).2.1 (T k).2.2.1 = some x) {v : Value} (hv : fs[k]? = some v) (hdg : decode cc pc = .ok (.getfield index, 3))
    (kk : W p l e R s m args below meth c H locs cells slots Q (F0 m (pc + 3) ls (v :: rest))) : W p l e R s m args below meth c H locs cells slots Q (F0 m pc ls (.ref a :: rest)) := by
  subst ea
  exact va_get hexec hb hts hin hown hK (hm.one he) 0 rfl hc k hk hlink hsame hv hdg kk
theorem m_put (hexec : p.tables.exec = Jvm.exec) (hb : c.code = cc) {own ref C : String} {T : u_T} {N ci index : Nat} {Ts : List Cond} (hts : ∀ w ∈ Ts, w.before args s = true) (hin : ∀ w ∈ u_ws C T N, w ∈ Ts) (ty0 : Nat → FieldType) (hty : ∀ k, k < N → parseFieldDescriptor (T k).2.2.1 = some (ty0 k)) (hnm : ∀ a, a < N → ∀ b, b < N → a ≠ b → (T a).2.1 ≠ (T b).2.1) (hown : s.vm.findClass own = some m.cls) (hK : va_K D cl tys s) (hm : mS D cl A H0 ad G H locs) (r : Nat) (ea : a = ad r) {fs : List Value} (he : G r = some (.inr (ci, fs))) (hc : cl[ci]? = some (C, T, N)) (k : Nat) (hk : k < N) (hlink : (Cond.fieldLink own index ref (T k).2.1 (T k).2.2.1).before args s = true) (hsame : ∀ x, s.fieldFound? (T k).1 (T k).2.1 (T k).2.2.1 = some x → s.fieldFound? ref (T k).2.1 (T k).2.2.1 = some x) (hfin : (T k).2.2.2 = false) {ty : FieldType} {v : Value} (hd : parseFieldDescriptor (T k).2.2.1 = some ty) (hn : narrow ty v = v) (hfit : fits ty v = true) (hl : k < fs.length)
    (hdg : decode cc pc = .ok (.putfield index, 3)) (kk : ∀ (H1 : Heap) (locs1 : List Loc), mS D cl A H0 ad (va_up G r (some (.inr (ci, fs.set k v)))) H1 locs1 → W p l e R s m args below meth c H1 locs1 cells slots Q (F0 m (pc + 3) ls rest)) : W p l e R s m args below meth c H locs cells slots Q (F0 m pc ls (v :: .ref a :: rest)) := by
  subst ea
  have hap := va_apart (own := own) hts hin ty0 hty hnm hK hc
  obtain ⟨r', h1, cell, q1, q2, q3, q4⟩ := hm.1.1 r _ he
  have hr : r' = (C, T, N) := Option.some.inj (h1.symm.trans hc)
  subst hr
  obtain ⟨hS, hfc, kC, hkC, hkind⟩ := hK.1 ci _ hc
  obtain ⟨cf, kf, fi, f, hi, hsl⟩ := hS k hk
  have hlay := hts _ (hin _ (u_in_lay hk))
  unfold u_lay at hlay
  rw [if_neg (by rw [hfin]; decide)] at hlay
  have hst := (u_facts hfc hkC (u_lays hts hin hk) hi).1
  have h6 := u_store hfc hkC hkind hlay hi hd hn hfit
  refine W.putK hexec hb (f := f) ⟨hown, hlink, ⟨_, _, _, hsame _ hi⟩, hst⟩ (by rw [q2]; exact h6) q1 q3 (by rw [hsl]; exact k2_hasslot (q4 k hk)) rfl rfl hdg fun H' e1 e2 e3 => ?_
  rw [hsl] at e1 ⊢
  exact kk H' _ (hm.set he ⟨_, hc, t_OB.to (V := updV (vp_V fs) k v) ⟨_, e1, q2, q3, t_set q4 hap hk v⟩ (fun j _ => vp_updV_set hl v j)⟩ e2 e3)
theorem m_putF (hexec : p.tables.exec = Jvm.exec) (hb : c.code = cc) {own ref C : String} {T : u_T} {N ci index : Nat} {Ts : List Cond} (hts : ∀ w ∈ Ts, w.before args s = true) (hin : ∀ w ∈ u_ws C T N, w ∈ Ts) (ty0 : Nat → FieldType) (hty : ∀ k, k < N → parseFieldDescriptor (T k).2.2.1 = some (ty0 k)) (hnm : ∀ a, a < N → ∀ b, b < N → a ≠ b → (T a).2.1 ≠ (T b).2.1) (hown : s.vm.findClass own = some m.cls) (hK : va_K D cl tys s) (hm : mS D cl A H0 ad G H locs) (r : Nat) (ea : a = ad r) {fs : List Value} (he : G r = some (.inr (ci, fs))) (hc : cl[ci]? = some (C, T, N)) (k : Nat) (hk : k < N) (hlink : (Cond.fieldLink own index ref (T k).2.1 (T k).2.2.1).before args s = true) (hsame : ∀ x, s.fieldFound? (T k).1 (T k).2.1 (T k).2.2.1 = some x → s.fieldFound? ref (T k).2.1 (T k).2.2.1 = some x) (hfin : (T k).2.2.2 = true) (hin2 : meth.name = "<init>") (hdecl : (T k).1 = own) {ty : FieldType} {v : Value} (hd : parseFieldDescriptor (T k).2.2.1 = some ty) (hn : narrow ty v = v) (hfit : fits ty v = true) (hl : k < fs.length)
    (hdg : decode cc pc = .ok (.putfield index, 3)) (kk : ∀ (H1 : Heap) (locs1 : List Loc), mS D cl A H0 ad (va_up G r (some (.inr (ci, fs.set k v)))) H1 locs1 → W p l e R s m args below meth c H1 locs1 cells slots Q (F0 m (pc + 3) ls rest)) : W p l e R s m args below meth c H locs cells slots Q (F0 m pc ls (v :: .ref a :: rest)) := by
  subst ea
  have hap := va_apart (own := own) hts hin ty0 hty hnm hK hc
  obtain ⟨r', h1, cell, q1, q2, q3, q4⟩ := hm.1.1 r _ he
  have hr : r' = (C, T, N) := Option.some.inj (h1.symm.trans hc)
  subst hr
  obtain ⟨hS, hfc, kC, hkC, hkind⟩ := hK.1 ci _ hc
  obtain ⟨cf, kf, fi, f, hi, hsl⟩ := hS k hk
  have hlay := hts _ (hin _ (u_in_lay hk))
  unfold u_lay at hlay
  rw [if_pos hfin] at hlay
  have hst := (u_facts hfc hkC (u_lays hts hin hk) hi).1
  have hcf : m.cls = cf := by
    obtain ⟨_, _, c', _, _, _, -, -, hf', -, -, -, hown2, -⟩ := Cond.laysFinal_spec hlay
    have e1 : c' = cf := by have := hi.symm.trans hf'; simp at this; exact this.1.symm
    rw [hdecl] at hown2
    rw [← e1]; exact Option.some.inj (hown.symm.trans hown2)
  have h6 := u_fits hfc hkC hkind (Or.inr hlay) hi hd hn hfit
  refine W.putFinK hexec hb hown hlink (hsame _ hi) hst hcf hin2 (by rw [q2]; exact h6) q1 q3 (by rw [hsl]; exact k2_hasslot (q4 k hk)) rfl rfl hdg fun H' e1 e2 e3 => ?_
  rw [hsl] at e1 ⊢
  exact kk H' _ (hm.set he ⟨_, hc, t_OB.to (V := updV (vp_V fs) k v) ⟨_, e1, q2, q3, t_set q4 hap hk v⟩ (fun j _ => vp_updV_set hl v j)⟩ e2 e3)
theorem m_iald (hexec : p.tables.exec = Jvm.exec) (hb : c.code = cc) (hK : va_K D cl tys s) (hm : mS D cl A H0 ad G H locs) (r : Nat) (ea : a = ad r) (t0 : Nat) {cA : ClassId} {n : Nat} {f : Nat → Int32} (ha : G r = some (.inl (cA, n, .inl f))) (ht : tys[t0]? = some (cA, .int)) {i : Int32} {v : Int32} (hin : vp_in i n) (hv : f i.toNatClampNeg = v) (hdg : decode cc pc = .ok (.iaload, 1))
    (kk : W p l e R s m args below meth c H locs cells slots Q (F0 m (pc + 1) ls (.int v :: rest))) : W p l e R s m args below meth c H locs cells slots Q (F0 m pc ls (.int i :: .ref a :: rest)) := by
  subst ea; subst hv
  exact va_iald hexec hb hK (hm.one ha) 0 t0 rfl ht hin hdg kk
theorem m_lald (hexec : p.tables.exec = Jvm.exec) (hb : c.code = cc) (hK : va_K D cl tys s) (hm : mS D cl A H0 ad G H locs) (r : Nat) (ea : a = ad r) (t0 : Nat) {cA : ClassId} {n : Nat} {f : Nat → Int64} (ha : G r = some (.inl (cA, n, .inr (.inl f)))) (ht : tys[t0]? = some (cA, .long)) {i : Int32} {v : Int64} (hin : vp_in i n) (hv : f i.toNatClampNeg = v) (hdg : decode cc pc = .ok (.laload, 1))
    (kk : W p l e R s m args below meth c H locs cells slots Q (F0 m (pc + 1) ls (.long v :: rest))) : W p l e R s m args below meth c H locs cells slots Q (F0 m pc ls (.int i :: .ref a :: rest)) := by
  subst ea; subst hv
  exact va_lald hexec hb hK (hm.one ha) 0 t0 rfl ht hin hdg kk
theorem m_zald (hexec : p.tables.exec = Jvm.exec) (hb : c.code = cc) (hK : va_K D cl tys s) (hm : mS D cl A H0 ad G H locs) (r : Nat) (ea : a = ad r) (t0 : Nat) {cA : ClassId} {n : Nat} {f : Nat → Int32} (ha : G r = some (.inl (cA, n, .inl f))) (ht : tys[t0]? = some (cA, .boolean)) {i : Int32} {v : Int32} (hin : vp_in i n) (hv : f i.toNatClampNeg = v) (hdg : decode cc pc = .ok (.baload, 1))
    (kk : W p l e R s m args below meth c H locs cells slots Q (F0 m (pc + 1) ls (.int v :: rest))) : W p l e R s m args below meth c H locs cells slots Q (F0 m pc ls (.int i :: .ref a :: rest)) := by
  subst ea; subst hv
  exact va_zald hexec hb hK (hm.one ha) 0 t0 rfl ht hin hdg kk
theorem m_aald (hexec : p.tables.exec = Jvm.exec) (hb : c.code = cc) (hK : va_K D cl tys s) (hm : mS D cl A H0 ad G H locs) (r : Nat) (ea : a = ad r) (t0 : Nat) {cA : ClassId} {C : String} {n : Nat} {f : Nat → Option Nat} (ha : G r = some (.inl (cA, n, .inr (.inr (.inr (.inr f)))))) (ht : tys[t0]? = some (cA, .object C)) {i : Int32} {v : Value} (hin : vp_in i n) (hv : va_rf (f i.toNatClampNeg) = v) (hdg : decode cc pc = .ok (.aaload, 1))
    (kk : W p l e R s m args below meth c H locs cells slots Q (F0 m (pc + 1) ls (v :: rest))) : W p l e R s m args below meth c H locs cells slots Q (F0 m pc ls (.int i :: .ref a :: rest)) := by
  subst ea; subst hv
  exact va_aldq hexec hb hK (hm.one ha) 0 t0 rfl ht hin hdg kk
theorem m_alen (hexec : p.tables.exec = Jvm.exec) (hb : c.code = cc) (hK : va_K D cl tys s) (hm : mS D cl A H0 ad G H locs) (r : Nat) (ea : a = ad r) (t0 : Nat) {cA : ClassId} {x : vp_A} (ha : G r = some (.inl (cA, x))) {ty : FieldType} (ht : tys[t0]? = some (cA, ty)) {v : Int32} (hv : Int32.ofNat x.1 = v) (hdg : decode cc pc = .ok (.arraylength, 1))
    (kk : W p l e R s m args below meth c H locs cells slots Q (F0 m (pc + 1) ls (.int v :: rest))) : W p l e R s m args below meth c H locs cells slots Q (F0 m pc ls (.ref a :: rest)) := by
  subst ea
  exact va_alen hexec hb hK (hm.one ha) 0 t0 rfl ht hv hdg kk
theorem m_iast (hexec : p.tables.exec = Jvm.exec) (hb : c.code = cc) (hK : va_K D cl tys s) (hm : mS D cl A H0 ad G H locs) (r : Nat) (ea : a = ad r) (t0 : Nat) {cA : ClassId} {n : Nat} {f : Nat → Int32} (ha : G r = some (.inl (cA, n, .inl f))) (ht : tys[t0]? = some (cA, .int)) {i x : Int32} (hin : vp_in i n) (hdg : decode cc pc = .ok (.iastore, 1))
    (kk : ∀ (H1 : Heap) (locs1 : List Loc), mS D cl A H0 ad (va_up G r (some (.inl (cA, n, .inl (upd f i.toNatClampNeg x))))) H1 locs1 → W p l e R s m args below meth c H1 locs1 cells slots Q (F0 m (pc + 1) ls rest)) : W p l e R s m args below meth c H locs cells slots Q (F0 m pc ls (.int x :: .int i :: .ref a :: rest)) := by
  subst ea
  refine W.iast hexec hb (hm.1.1 r _ ha) ((hK.2 t0 _ ht).1 n (fun j => .int (f j))) (fun q => by cases q) (by show ¬ (i < 0 ∨ (arrV _ _ _).slots.size ≤ _); rw [arrV_size]; exact hin) rfl rfl hdg fun H1 e1 z oq => ?_
  refine kk H1 _ (hm.set ha ?_ z oq)
  show H1[ad r]? = some (vp_cell _ _)
  rw [e1, vp_cell_i, vp_cell_i, arrV_store]
  congr 2
  funext q
  by_cases hq : q = i.toNatClampNeg
  · subst hq
    simp [updV, upd]
  · simp [updV, upd, hq]
theorem m_last (hexec : p.tables.exec = Jvm.exec) (hb : c.code = cc) (hK : va_K D cl tys s) (hm : mS D cl A H0 ad G H locs) (r : Nat) (ea : a = ad r) (t0 : Nat) {cA : ClassId} {n : Nat} {f : Nat → Int64} (ha : G r = some (.inl (cA, n, .inr (.inl f)))) (ht : tys[t0]? = some (cA, .long)) {i : Int32} {x : Int64} (hin : vp_in i n) (hdg : decode cc pc = .ok (.lastore, 1))
    (kk : ∀ (H1 : Heap) (locs1 : List Loc), mS D cl A H0 ad (va_up G r (some (.inl (cA, n, .inr (.inl (vp_updL f i.toNatClampNeg x)))))) H1 locs1 → W p l e R s m args below meth c H1 locs1 cells slots Q (F0 m (pc + 1) ls rest)) : W p l e R s m args below meth c H locs cells slots Q (F0 m pc ls (.long x :: .int i :: .ref a :: rest)) := by
  subst ea
  refine W.last hexec hb (hm.1.1 r _ ha) ((hK.2 t0 _ ht).1 n (fun j => .long (f j))) (fun q => by cases q) (by show ¬ (i < 0 ∨ (arrV _ _ _).slots.size ≤ _); rw [arrV_size]; exact hin) rfl rfl hdg fun H1 e1 z oq => ?_
  refine kk H1 _ (hm.set ha ?_ z oq)
  show H1[ad r]? = some (vp_cell _ _)
  rw [e1, vp_cell_l, vp_cell_l, arrV_store]
  congr 2
  funext q
  by_cases hq : q = i.toNatClampNeg
  · subst hq
    simp [updV, vp_updL]
  · simp [updV, vp_updL, hq]
theorem m_zast (hexec : p.tables.exec = Jvm.exec) (hb : c.code = cc) (hK : va_K D cl tys s) (hm : mS D cl A H0 ad G H locs) (r : Nat) (ea : a = ad r) (t0 : Nat) {cA : ClassId} {n : Nat} {f : Nat → Int32} (ha : G r = some (.inl (cA, n, .inl f))) (ht : tys[t0]? = some (cA, .boolean)) {i x : Int32} (hin : vp_in i n) (hdg : decode cc pc = .ok (.bastore, 1))
    (kk : ∀ (H1 : Heap) (locs1 : List Loc), mS D cl A H0 ad (va_up G r (some (.inl (cA, n, .inl (upd f i.toNatClampNeg (vp_nar .boolean x)))))) H1 locs1 → W p l e R s m args below meth c H1 locs1 cells slots Q (F0 m (pc + 1) ls rest)) : W p l e R s m args below meth c H locs cells slots Q (F0 m pc ls (.int x :: .int i :: .ref a :: rest)) := by
  subst ea
  refine W.zast hexec hb (hm.1.1 r _ ha) ((hK.2 t0 _ ht).1 n (fun j => .int (f j))) (fun q => by cases q) (by show ¬ (i < 0 ∨ (arrV _ _ _).slots.size ≤ _); rw [arrV_size]; exact hin) rfl rfl hdg fun H1 e1 z oq => ?_
  refine kk H1 _ (hm.set ha ?_ z oq)
  show H1[ad r]? = some (vp_cell _ _)
  rw [e1, vp_cell_i, vp_cell_i, arrV_store]
  congr 2
  funext q
  by_cases hq : q = i.toNatClampNeg
  · subst hq
    simp [updV, upd, vp_nar]
    try rfl
  · simp [updV, upd, hq]
theorem m_aast (hexec : p.tables.exec = Jvm.exec) (hb : c.code = cc) (hK : va_K D cl tys s) (hm : mS D cl A H0 ad G H locs) (r : Nat) (ea : a = ad r) (t0 rk ci : Nat) {cA : ClassId} {r' : vw_C} {n v : Nat} (ev : v = ad rk) {vs : List Value} {f : Nat → Option Nat} (ha : G r = some (.inl (cA, n, .inr (.inr (.inr (.inr f)))))) (ht : tys[t0]? = some (cA, .object r'.1)) (hv : G rk = some (.inr (ci, vs))) (hc : cl[ci]? = some r') {i : Int32} (hin : vp_in i n) (hdg : decode cc pc = .ok (.aastore, 1))
    (kk : ∀ (H1 : Heap) (locs1 : List Loc), mS D cl A H0 ad (va_up G r (some (.inl (cA, n, .inr (.inr (.inr (.inr (va_up f i.toNatClampNeg (some v))))))))) H1 locs1 → W p l e R s m args below meth c H1 locs1 cells slots Q (F0 m (pc + 1) ls rest)) : W p l e R s m args below meth c H locs cells slots Q (F0 m pc ls (.ref v :: .int i :: .ref a :: rest)) := by
  subst ea; subst ev
  have hlt : i.toNatClampNeg < n := Nat.not_le.mp fun q => hin (Or.inr q)
  have h0 : ¬ i < 0 := fun q => hin (Or.inl q)
  obtain ⟨r9, hr9, cellV, g1, g2, g3, -⟩ := hm.1.1 rk _ hv
  have hcls := (hK.1 ci r' hc).2
  obtain ⟨kA, comp, k1, k2, k3, -⟩ := (hK.2 t0 _ ht).2
  have hcomp : comp = D.1 ci := Option.some.inj (k3.symm.trans hcls.1)
  subst hcomp
  obtain ⟨kC, hkC, -⟩ := hcls.2
  refine W.aast hexec hb (hm.1.1 r _ ha) (fun q h => by cases h) (fun h => by cases h) k1 k2 rfl hkC ⟨h0, by show _ < (arrV _ _ _).slots.size; rw [arrV_size]; exact hlt⟩ g1 (fun q h => by rw [g3] at h; cases h) (by rw [g2]; exact hkC) (by rw [g2]; exact va_assign hcls) rfl rfl hdg fun H1 e1 z oq => ?_
  refine kk H1 _ (hm.set ha ?_ z oq)
  show H1[ad r]? = some (vp_cell _ _)
  rw [e1, vp_cell_q, vp_cell_q, arrV_store]
  congr 2
  funext q
  by_cases hq : q = i.toNatClampNeg
  · subst hq
    simp [updV, va_up, va_rf]
  · simp [updV, va_up, hq]
theorem m_newa (hexec : p.tables.exec = Jvm.exec) (hb : c.code = cc) {atype : ArrayType} (harr : (Cond.arrayClass (newarray.typeOf atype)).before args s = true) {ty : FieldType} (hty : newarray.typeOf atype = ty) (hm : mS D cl A H0 ad G H locs) (hA : ∀ q, H0.size ≤ q → A q) (r : Nat) (hr : G r = none) {cA : ClassId} (hcA : s.vm.findClass ("[" ++ ty.toString) = some cA)
    {n : Int32} {N' : Nat} {a0 : vp_A} (ha : ∀ cA : ClassId, vp_cell cA a0 = arrV cA N' (fun _ => defaultValue ty)) (hn : ¬ n < 0) (hN : n.toNatClampNeg = N') (hbytes : N' * componentBytes ty ≤ 536870912) (hcells : cells + 1 ≤ R.cells) (hslots : slots + N' ≤ R.slots) (hdg : decode cc pc = .ok (.newarray atype, 2))
    (kk : ∀ (q : Nat) (H1 : Heap), mS D cl A H0 (va_up ad r q) (va_up G r (some (.inl (cA, a0)))) H1 locs →
      W p l e R s m args below meth c H1 locs (cells + 1) (slots + N') Q (F0 m (pc + 2) ls (.ref q :: rest))) : W p l e R s m args below meth c H locs cells slots Q (F0 m pc ls (.int n :: rest)) := by
  subst hty
  refine va_newaK hexec hb harr rfl hdg rfl hn hN hbytes hcells hslots rfl fun H1 cA' e1 z1 o1 hAr hNm => ?_
  have hc9 : cA' = cA := Option.some.inj (hNm.symm.trans hcA)
  subst hc9
  refine kk H.size H1 (hm.push hA hr ?_ (by omega) o1)
  show H1[H.size]? = some (vp_cell _ _)
  rw [ha]
  exact e1
theorem m_newq (hexec : p.tables.exec = Jvm.exec) (hb : c.code = cc) {own C : String} {index : Nat} (hown : s.vm.findClass own = some m.cls) (hclink : (Cond.classLink own index C).before args s = true) (hover : (Cond.arrayOver (.object C)).before args s = true) (hm : mS D cl A H0 ad G H locs) (hA : ∀ q, H0.size ≤ q → A q) (r : Nat) (hr : G r = none) {cA : ClassId} (hcA : s.vm.findClass ("[" ++ (FieldType.object C).toString) = some cA)
    {n : Int32} {N' : Nat} (hn : ¬ n < 0) (hN : n.toNatClampNeg = N') (hbytes : N' * 4 ≤ 536870912) (hcells : cells + 1 ≤ R.cells) (hslots : slots + N' ≤ R.slots) (hdg : decode cc pc = .ok (.anewarray index, 3))
    (kk : ∀ (q : Nat) (H1 : Heap), mS D cl A H0 (va_up ad r q) (va_up G r (some (.inl (cA, N', .inr (.inr (.inr (.inr (fun _ => none)))))))) H1 locs →
      W p l e R s m args below meth c H1 locs (cells + 1) (slots + N') Q (F0 m (pc + 3) ls (.ref q :: rest))) : W p l e R s m args below meth c H locs cells slots Q (F0 m pc ls (.int n :: rest)) := by
  subst hN
  refine W.anew hexec hb hown hclink hover rfl hdg rfl hn hbytes hcells hslots fun cA' kA comp f1 f2 f3 f4 => ?_
  have hc9 : cA' = cA := Option.some.inj (f1.symm.trans hcA)
  subst hc9
  refine kk H.size _ (hm.push hA hr ?_ (by rw [Array.size_push]; omega) (fun q hq => by rw [Array.getElem?_push, if_neg (Nat.ne_of_lt hq)]))
  show _ = some (vp_cell _ _)
  rw [vp_cell_q, Array.getElem?_push_size, ← arrV_new]
  rfl
theorem m_new (hexec : p.tables.exec = Jvm.exec) (hb : c.code = cc) {own C : String} {T : u_T} {N ci index : Nat} {Ts : List Cond} (hts : ∀ w ∈ Ts, w.before args s = true) (hin : ∀ w ∈ u_ws C T N, w ∈ Ts) (ty : Nat → FieldType) (hty : ∀ k, k < N → parseFieldDescriptor (T k).2.2.1 = some (ty k)) (hown : s.vm.findClass own = some m.cls) (hcl : (Cond.classLink own index C).before args s = true) (hinst : (Cond.instantiable C N).before args s = true) (hini : (Cond.initialized C).before args s = true)
    (hK : va_K D cl tys s) (hm : mS D cl A H0 ad G H locs) (hA : ∀ q, H0.size ≤ q → A q) (r : Nat) (hr : G r = none) (hc : cl[ci]? = some (C, T, N)) {fs : List Value} (hfs : ∀ j, j < N → defaultValue (ty j) = vp_V fs j) (hcells : cells + 1 ≤ R.cells) (hslots : slots + N ≤ R.slots) (hdg : decode cc pc = .ok (.new index, 3))
    (kk : ∀ (q : Nat) (H1 : Heap), mS D cl A H0 (va_up ad r q) (va_up G r (some (.inr (ci, fs)))) H1 locs →
      W p l e R s m args below meth c H1 locs (cells + 1) (slots + N) Q (F0 m (pc + 3) ls (.ref q :: rest))) : W p l e R s m args below meth c H locs cells slots Q (F0 m pc ls rest) := by
  have hKn := hK.1 ci _ hc
  refine W.newcK hexec hb hown hcl hinst hini rfl hdg hcells hslots hKn.2.1 rfl fun H1 kC hkC e1 z1 o1 => ?_
  exact kk H.size H1 (hm.push hA hr ⟨_, hc, (u_born ty hts hin hKn hkC e1 hty).to hfs⟩ (by omega) o1)
end MROWS
end
section
/-! calls and ends over worlds by roles -/
def mB (D : va_G) (cl : List vw_C) (A : Nat → Prop) (u : mU) (t : State) : Prop := mw D cl u.1 u.2 t.heap ∧ ∀ (r : Nat) (e : va_E), u.2 r = some e → A (u.1 r)
def mPc (av : List Value) (D : va_G) (cl : List vw_C) (tys : List (ClassId × FieldType)) (tx : List (String × Nat × String)) (ad : Nat → Nat) (G : mG) (sz : Nat) : Array Value → State → Prop := va_Pc av (fun U => U.heap.size = sz ∧ mw D cl ad G U.heap ∧ mC D cl tys tx (mA ad G sz) U U.heap)
abbrev mQi (post : Int32 → mU → Prop) (D : va_G) (cl : List vw_C) (ad : Nat → Nat) (G : mG) (sz : Nat) : Array Value → State → Outcome → State → Prop := va_Qi post (mB D cl (mA ad G sz)) (mA ad G sz)
abbrev mQl (post : Int64 → mU → Prop) (D : va_G) (cl : List vw_C) (ad : Nat → Nat) (G : mG) (sz : Nat) : Array Value → State → Outcome → State → Prop := va_Ql post (mB D cl (mA ad G sz)) (mA ad G sz)
abbrev mQv (post : mU → Prop) (D : va_G) (cl : List vw_C) (ad : Nat → Nat) (G : mG) (sz : Nat) : Array Value → State → Outcome → State → Prop := va_Qv post (mB D cl (mA ad G sz)) (mA ad G sz)
abbrev mQq (post : Option Nat → mU → Prop) (D : va_G) (cl : List vw_C) (ad : Nat → Nat) (G : mG) (sz : Nat) : Array Value → State → Outcome → State → Prop := va_Qq post (mB D cl (mA ad G sz)) (mA ad G sz)
abbrev mXC (px : String → mU → Prop) (D : va_G) (cl : List vw_C) (ad : Nat → Nat) (G : mG) (sz : Nat) : String → State → State → Prop := vx_X (fun _ : mU => True) (fun E u t => px E u ∧ mB D cl (mA ad G sz) u t) (mA ad G sz)
section MCALLS
variable {p : Program} {l : Launch} {e : Env} {R : Room} {s : State} {m : MethodId} {args : Array Value} {below : List Frame} {meth : Method} {c : Code} {H : Heap} {locs : List Loc} {cells slots : Nat} {Q : State → Prop}
variable {cc : ByteArray} {pc : Nat} {ls : Array Slot} {rest st0 : List Value} {D : va_G} {cl : List vw_C} {A : Nat → Prop} {a : Array Value} {b : Nat} {tys : List (ClassId × FieldType)} {tx : List (String × Nat × String)} {ad ad0 : Nat → Nat} {G G0 : mG} {mc ms : Nat}
theorem mPc.blind {av : List Value} {sz : Nat} : FrameBlind (mPc av D cl tys tx ad G sz) := by
  intro a U g mk h
  obtain ⟨h1, h2, h3, h4, h5, h6, h8⟩ := h
  exact ⟨h1, h2, h3, va_K.moved (u := U) (U := U.calling g mk a) (Vm.Alike.refl U.vm) h4, mX.to (u := U) (U := U.calling g mk a) h5 (Vm.Alike.refl U.vm) (fun _ _ _ => rfl) (fun _ h => h), fun q hq => by obtain ⟨sa, h7⟩ := h6 q hq; exact ⟨sa, vk_R.same (u := U) (U := U.calling g mk a) rfl h7⟩, h8.same (u := U) (U := U.calling g mk a) rfl⟩
theorem mPc.at {av : List Value} (hm : mS D cl A s.heap ad G H locs) (hA : ∀ q, s.heap.size ≤ q → A q) (hC : mC D cl tys tx A s s.heap) : ∀ U : State, U.heap = H → s.WarmedH U.vm → mPc av D cl tys tx ad G H.size av.toArray U := by
  intro U hU hW
  refine ⟨rfl, by rw [hU], by rw [hU]; exact hm.1, ?_⟩
  rw [hU]
  exact hC.to hW hm.2.2.2.1 (hm.free hA)
variable {y : MethodName} {bytes : ByteArray} {maxL nL n index : Nat} {ret : Option FieldType} {ws : List Cond} {rm : Room} {Qc : Array Value → State → Outcome → State → Prop} {XC : String → State → State → Prop} {free : Addr → Prop} {Ts : List Cond} {own C : String} {As : List Value}
theorem m_runV (S : CallFix p m c cc nL s args Ts own) (hM : Met l y ws rm (mPc ((.ref b :: As)) D cl tys tx ad G H.size) Qc mc ms free) (cw : CallW R s args own C index y bytes maxL ret ws rm mc ms n) (hm : mS D cl A s.heap ad G H locs) (hA : ∀ q, s.heap.size ≤ q → A q) (hC : mC D cl tys tx A s s.heap) (r : Nat) (eb : b = ad r) {ci : Nat} {fs : List Value} {q : vw_C} (he : G r = some (.inr (ci, fs))) (hc : cl[ci]? = some q) (hq : q.1 = C) (hn : As.length = n) (hsize : ls.size = nL) (hstack : st0 = As.reverse ++ .ref b :: rest) (hW : (rest.map fun v => v.category).sum ≤ 8) (hdg : decode cc pc = .ok (.invokevirtual index, 3)) (hf : cells + mc ≤ R.cells ∧ slots + ms ≤ R.slots) : va_Run p l e R s m args below meth c H locs cells slots mc ms (F0 m pc ls st0) rest (Qc (Value.ref b :: As).toArray) free := by
  subst eb; subst hq
  exact va_runV S hM cw ⟨mPc.blind, va_recv hC.1 (hm.one he) hc (q0 := 0) rfl, mPc.at hm hA hC⟩ rfl hn hsize hstack (lv_room hW) hdg hf
theorem m_runS (S : CallFix p m c cc nL s args Ts own) (hM : Met l y ws rm (mPc (As) D cl tys tx ad G H.size) Qc mc ms free) (cw : CallB R s args own index y bytes maxL ret ws rm mc ms n ∧ (Cond.static y).before args s = true) (hm : mS D cl A s.heap ad G H locs) (hA : ∀ q, s.heap.size ≤ q → A q) (hC : mC D cl tys tx A s s.heap) (hn : As.length = n) (hsize : ls.size = nL) (hstack : st0 = As.reverse ++ rest) (hW : (rest.map fun v => v.category).sum ≤ 8) (hdg : decode cc pc = .ok (.invokestatic index, 3)) (hf : cells + mc ≤ R.cells ∧ slots + ms ≤ R.slots) : va_Run p l e R s m args below meth c H locs cells slots mc ms (F0 m pc ls st0) rest (Qc As.toArray) free := by
  exact va_runS S hM cw ⟨mPc.blind, mPc.at hm hA hC⟩ rfl hn hsize hstack (lv_room hW) hdg hf
theorem m_runI (S : CallFix p m c cc nL s args Ts own) (hM : Met l y ws rm (mPc ((.ref b :: As)) D cl tys tx ad G H.size) Qc mc ms free) (cw : CallB R s args own index y bytes maxL none ws rm mc ms n ∧ y.name = "<init>" ∧ (Cond.instanceMethod y).before args s = true) (hm : mS D cl A s.heap ad G H locs) (hA : ∀ q, s.heap.size ≤ q → A q) (hC : mC D cl tys tx A s s.heap) (hn : As.length = n) (hsize : ls.size = nL) (hstack : st0 = As.reverse ++ .ref b :: rest) (hW : (rest.map fun v => v.category).sum ≤ 8) (hdg : decode cc pc = .ok (.invokespecial index, 3)) (hf : cells + mc ≤ R.cells ∧ slots + ms ≤ R.slots) : va_Run p l e R s m args below meth c H locs cells slots mc ms (F0 m pc ls st0) rest (Qc (Value.ref b :: As).toArray) free := by
  exact va_runI S hM cw ⟨mPc.blind, mPc.at hm hA hC⟩ rfl hn hsize hstack (lv_room hW) hdg hf
theorem x_runV (S : CallFix p m c cc nL s args Ts own) (hM : vx_Met l y ws rm (mPc ((.ref b :: As)) D cl tys tx ad G H.size) Qc XC mc ms free) (cw : CallW R s args own C index y bytes maxL ret ws rm mc ms n) (hm : mS D cl A s.heap ad G H locs) (hA : ∀ q, s.heap.size ≤ q → A q) (hC : mC D cl tys tx A s s.heap) (r : Nat) (eb : b = ad r) {ci : Nat} {fs : List Value} {q : vw_C} (he : G r = some (.inr (ci, fs))) (hc : cl[ci]? = some q) (hq : q.1 = C) (hn : As.length = n) (hsize : ls.size = nL) (hstack : st0 = As.reverse ++ .ref b :: rest) (hW : (rest.map fun v => v.category).sum ≤ 8) (hdg : decode cc pc = .ok (.invokevirtual index, 3)) (hf : cells + mc ≤ R.cells ∧ slots + ms ≤ R.slots) : vx_Run p l e R s m args below meth c H locs cells slots mc ms (F0 m pc ls st0) rest (Qc (Value.ref b :: As).toArray) XC free := by
  subst eb; subst hq
  exact vx_runV S hM cw ⟨mPc.blind, va_recv hC.1 (hm.one he) hc (q0 := 0) rfl, mPc.at hm hA hC⟩ rfl hn hsize hstack (lv_room hW) hdg hf
theorem x_runS (S : CallFix p m c cc nL s args Ts own) (hM : vx_Met l y ws rm (mPc (As) D cl tys tx ad G H.size) Qc XC mc ms free) (cw : CallB R s args own index y bytes maxL ret ws rm mc ms n ∧ (Cond.static y).before args s = true) (hm : mS D cl A s.heap ad G H locs) (hA : ∀ q, s.heap.size ≤ q → A q) (hC : mC D cl tys tx A s s.heap) (hn : As.length = n) (hsize : ls.size = nL) (hstack : st0 = As.reverse ++ rest) (hW : (rest.map fun v => v.category).sum ≤ 8) (hdg : decode cc pc = .ok (.invokestatic index, 3)) (hf : cells + mc ≤ R.cells ∧ slots + ms ≤ R.slots) : vx_Run p l e R s m args below meth c H locs cells slots mc ms (F0 m pc ls st0) rest (Qc As.toArray) XC free := by
  exact vx_runS S hM cw ⟨mPc.blind, mPc.at hm hA hC⟩ rfl hn hsize hstack (lv_room hW) hdg hf
theorem m_runSW {hh : List (Nat × Nat × Nat × Nat)} (S : CallFix p m c cc nL s args Ts own) (hM : Met l y ws rm (mPc (As) D cl tys tx ad G H.size) Qc mc ms free) (cw : vx_CSW R s args own index y bytes maxL ret hh ws rm mc ms n) (hm : mS D cl A s.heap ad G H locs) (hA : ∀ q, s.heap.size ≤ q → A q) (hC : mC D cl tys tx A s s.heap) (hn : As.length = n) (hsize : ls.size = nL) (hstack : st0 = As.reverse ++ rest) (hW : (rest.map fun v => v.category).sum ≤ 8) (hdg : decode cc pc = .ok (.invokestatic index, 3)) (hf : cells + mc ≤ R.cells ∧ slots + ms ≤ R.slots) : va_Run p l e R s m args below meth c H locs cells slots mc ms (F0 m pc ls st0) rest (Qc As.toArray) free := by
  exact vx_runSW S hM cw ⟨mPc.blind, mPc.at hm hA hC⟩ rfl hn hsize hstack (lv_room hW) hdg hf
theorem m_calli {post : Int32 → mU → Prop} (hr : va_Run p l e R s m args below meth c H locs cells slots mc ms (F0 m pc ls st0) rest (mQi post D cl ad G H.size a) (mA ad G H.size)) (hm : mS D cl A s.heap ad G H locs) (hA : ∀ q, s.heap.size ≤ q → A q)
    (kk : ∀ (r : Int32) (ad1 : Nat → Nat) (G1 : mG) (H1 : Heap) (locs1 : List Loc), post r (ad1, G1) → mS D cl A s.heap ad1 G1 H1 locs1 → W p l e R s m args below meth c H1 locs1 (cells + mc) (slots + ms) Q (F0 m (pc + 3) ls (.int r :: rest))) : W p l e R s m args below meth c H locs cells slots Q (F0 m pc ls st0) := by
  refine va_calli hr hm.2.2 (fun q _ h => hm.free hA q h) (hm.free hA) (fun r u t H1 locs1 ht hvm hp hB hz hk hS => ?_)
  obtain ⟨ad1, G1⟩ := u
  subst ht
  exact kk r ad1 G1 _ _ hp ⟨hB.1, fun r e h => hm.free hA _ (hB.2 r e h), hS⟩
theorem x_calli {post : Int32 → mU → Prop} {px : String → mU → Prop} (hr : vx_Run p l e R s m args below meth c H locs cells slots mc ms (F0 m pc ls st0) rest (mQi post D cl ad G H.size a) (mXC px D cl ad G H.size) (mA ad G H.size)) (hm : mS D cl A s.heap ad G H locs) (hA : ∀ q, s.heap.size ≤ q → A q)
    (kx : ∀ (E : String) (ce : Cell) (q9 : Addr) (ad1 : Nat → Nat) (G1 : mG) (H1 : Heap) (locs1 : List Loc), px E (ad1, G1) → mS D cl A s.heap ad1 G1 H1 locs1 → H1[q9]? = some ce → ce.vm = .none → s.vm.findClass E = some ce.cls → vx_W p l e R s m args below meth c H1 locs1 (cells + mc) (slots + ms) Q (F0 m pc ls rest) q9)
    (kk : ∀ (r : Int32) (ad1 : Nat → Nat) (G1 : mG) (H1 : Heap) (locs1 : List Loc), post r (ad1, G1) → mS D cl A s.heap ad1 G1 H1 locs1 → W p l e R s m args below meth c H1 locs1 (cells + mc) (slots + ms) Q (F0 m (pc + 3) ls (.int r :: rest))) : W p l e R s m args below meth c H locs cells slots Q (F0 m pc ls st0) := by
  refine vx_calli hr hm.2.2 (fun q _ h => hm.free hA q h) (hm.free hA) (fun q _ h => hm.free hA q h) (fun E ce q9 u t H1 locs1 ht hvm hp hB hz hk hS h7 h8 h9 => ?_) (fun r u t H1 locs1 ht hvm hp hB hz hk hS => ?_)
  · obtain ⟨ad1, G1⟩ := u
    subst ht
    exact kx E ce q9 ad1 G1 _ _ hB.1 ⟨hB.2.1, fun r e h => hm.free hA _ (hB.2.2 r e h), hS⟩ h7 h8 h9
  · obtain ⟨ad1, G1⟩ := u
    subst ht
    exact kk r ad1 G1 _ _ hp ⟨hB.1, fun r e h => hm.free hA _ (hB.2 r e h), hS⟩
theorem m_calll {post : Int64 → mU → Prop} (hr : va_Run p l e R s m args below meth c H locs cells slots mc ms (F0 m pc ls st0) rest (mQl post D cl ad G H.size a) (mA ad G H.size)) (hm : mS D cl A s.heap ad G H locs) (hA : ∀ q, s.heap.size ≤ q → A q)
    (kk : ∀ (r : Int64) (ad1 : Nat → Nat) (G1 : mG) (H1 : Heap) (locs1 : List Loc), post r (ad1, G1) → mS D cl A s.heap ad1 G1 H1 locs1 → W p l e R s m args below meth c H1 locs1 (cells + mc) (slots + ms) Q (F0 m (pc + 3) ls (.long r :: rest))) : W p l e R s m args below meth c H locs cells slots Q (F0 m pc ls st0) := by
  refine va_calll hr hm.2.2 (fun q _ h => hm.free hA q h) (hm.free hA) (fun r u t H1 locs1 ht hvm hp hB hz hk hS => ?_)
  obtain ⟨ad1, G1⟩ := u
  subst ht
  exact kk r ad1 G1 _ _ hp ⟨hB.1, fun r e h => hm.free hA _ (hB.2 r e h), hS⟩
theorem x_calll {post : Int64 → mU → Prop} {px : String → mU → Prop} (hr : vx_Run p l e R s m args below meth c H locs cells slots mc ms (F0 m pc ls st0) rest (mQl post D cl ad G H.size a) (mXC px D cl ad G H.size) (mA ad G H.size)) (hm : mS D cl A s.heap ad G H locs) (hA : ∀ q, s.heap.size ≤ q → A q)
    (kx : ∀ (E : String) (ce : Cell) (q9 : Addr) (ad1 : Nat → Nat) (G1 : mG) (H1 : Heap) (locs1 : List Loc), px E (ad1, G1) → mS D cl A s.heap ad1 G1 H1 locs1 → H1[q9]? = some ce → ce.vm = .none → s.vm.findClass E = some ce.cls → vx_W p l e R s m args below meth c H1 locs1 (cells + mc) (slots + ms) Q (F0 m pc ls rest) q9)
    (kk : ∀ (r : Int64) (ad1 : Nat → Nat) (G1 : mG) (H1 : Heap) (locs1 : List Loc), post r (ad1, G1) → mS D cl A s.heap ad1 G1 H1 locs1 → W p l e R s m args below meth c H1 locs1 (cells + mc) (slots + ms) Q (F0 m (pc + 3) ls (.long r :: rest))) : W p l e R s m args below meth c H locs cells slots Q (F0 m pc ls st0) := by
  refine vx_calll hr hm.2.2 (fun q _ h => hm.free hA q h) (hm.free hA) (fun q _ h => hm.free hA q h) (fun E ce q9 u t H1 locs1 ht hvm hp hB hz hk hS h7 h8 h9 => ?_) (fun r u t H1 locs1 ht hvm hp hB hz hk hS => ?_)
  · obtain ⟨ad1, G1⟩ := u
    subst ht
    exact kx E ce q9 ad1 G1 _ _ hB.1 ⟨hB.2.1, fun r e h => hm.free hA _ (hB.2.2 r e h), hS⟩ h7 h8 h9
  · obtain ⟨ad1, G1⟩ := u
    subst ht
    exact kk r ad1 G1 _ _ hp ⟨hB.1, fun r e h => hm.free hA _ (hB.2 r e h), hS⟩
theorem m_callq {post : Option Nat → mU → Prop} (hr : va_Run p l e R s m args below meth c H locs cells slots mc ms (F0 m pc ls st0) rest (mQq post D cl ad G H.size a) (mA ad G H.size)) (hm : mS D cl A s.heap ad G H locs) (hA : ∀ q, s.heap.size ≤ q → A q)
    (kk : ∀ (r : Option Nat) (ad1 : Nat → Nat) (G1 : mG) (H1 : Heap) (locs1 : List Loc), post r (ad1, G1) → mS D cl A s.heap ad1 G1 H1 locs1 → W p l e R s m args below meth c H1 locs1 (cells + mc) (slots + ms) Q (F0 m (pc + 3) ls (va_rf r :: rest))) : W p l e R s m args below meth c H locs cells slots Q (F0 m pc ls st0) := by
  refine va_callq hr hm.2.2 (fun q _ h => hm.free hA q h) (hm.free hA) (fun r u t H1 locs1 ht hvm hp hB hz hk hS => ?_)
  obtain ⟨ad1, G1⟩ := u
  subst ht
  exact kk r ad1 G1 _ _ hp ⟨hB.1, fun r e h => hm.free hA _ (hB.2 r e h), hS⟩
theorem x_callq {post : Option Nat → mU → Prop} {px : String → mU → Prop} (hr : vx_Run p l e R s m args below meth c H locs cells slots mc ms (F0 m pc ls st0) rest (mQq post D cl ad G H.size a) (mXC px D cl ad G H.size) (mA ad G H.size)) (hm : mS D cl A s.heap ad G H locs) (hA : ∀ q, s.heap.size ≤ q → A q)
    (kx : ∀ (E : String) (ce : Cell) (q9 : Addr) (ad1 : Nat → Nat) (G1 : mG) (H1 : Heap) (locs1 : List Loc), px E (ad1, G1) → mS D cl A s.heap ad1 G1 H1 locs1 → H1[q9]? = some ce → ce.vm = .none → s.vm.findClass E = some ce.cls → vx_W p l e R s m args below meth c H1 locs1 (cells + mc) (slots + ms) Q (F0 m pc ls rest) q9)
    (kk : ∀ (r : Option Nat) (ad1 : Nat → Nat) (G1 : mG) (H1 : Heap) (locs1 : List Loc), post r (ad1, G1) → mS D cl A s.heap ad1 G1 H1 locs1 → W p l e R s m args below meth c H1 locs1 (cells + mc) (slots + ms) Q (F0 m (pc + 3) ls (va_rf r :: rest))) : W p l e R s m args below meth c H locs cells slots Q (F0 m pc ls st0) := by
  intro T hT X
  rcases hr T hT X with ⟨v, st₀, t, T', L, h0, X', hL, e1, e2, ⟨⟨r, u, hv, hp, hB⟩, hF⟩, st⟩ | ⟨q, st₀, t, T', L, E, ce, h0, X', hL, e1, e2, ⟨u, hp, hB, hF⟩, hce, hcv, hcl, st⟩
  · cases hv
    obtain ⟨k1, k2, k3⟩ := vx_keep h0 e1 hm.2.2 (fun q _ h => hm.free hA q h) (hm.free hA) hL hF
    obtain ⟨ad1, G1⟩ := u
    have hB' : mw D cl ad1 G1 T'.heap := by rw [e1]; exact hB.1
    obtain ⟨t2, a1, b1⟩ := kk r ad1 G1 T'.heap (locs ++ L) hp ⟨hB', fun r e h => hm.free hA _ (hB.2 r e h), k3⟩ T' rfl X'
    exact ⟨t2, st t2 a1, b1⟩
  · obtain ⟨k1, k2, k3⟩ := vx_keep h0 e1 hm.2.2 (fun q _ h => hm.free hA q h) (hm.free hA) hL hF
    obtain ⟨ad1, G1⟩ := u
    have hB' : mw D cl ad1 G1 T'.heap := by rw [e1]; exact hB.2.1
    obtain ⟨t2, a1, b1⟩ := kx E ce q ad1 G1 T'.heap (locs ++ L) hB.1 ⟨hB', fun r e h => hm.free hA _ (hB.2.2 r e h), k3⟩ (by rw [e1]; exact hce) hcv hcl T' rfl X'
    exact ⟨t2, st.trans a1, b1⟩
theorem m_callv {post : mU → Prop} (hr : va_Run p l e R s m args below meth c H locs cells slots mc ms (F0 m pc ls st0) rest (mQv post D cl ad G H.size a) (mA ad G H.size)) (hm : mS D cl A s.heap ad G H locs) (hA : ∀ q, s.heap.size ≤ q → A q)
    (kk : ∀ (ad1 : Nat → Nat) (G1 : mG) (H1 : Heap) (locs1 : List Loc), post (ad1, G1) → mS D cl A s.heap ad1 G1 H1 locs1 → W p l e R s m args below meth c H1 locs1 (cells + mc) (slots + ms) Q (F0 m (pc + 3) ls (rest))) : W p l e R s m args below meth c H locs cells slots Q (F0 m pc ls st0) := by
  refine va_callv hr hm.2.2 (fun q _ h => hm.free hA q h) (hm.free hA) (fun u t H1 locs1 ht hvm hp hB hz hk hS => ?_)
  obtain ⟨ad1, G1⟩ := u
  subst ht
  exact kk ad1 G1 _ _ hp ⟨hB.1, fun r e h => hm.free hA _ (hB.2 r e h), hS⟩
theorem x_callv {post : mU → Prop} {px : String → mU → Prop} (hr : vx_Run p l e R s m args below meth c H locs cells slots mc ms (F0 m pc ls st0) rest (mQv post D cl ad G H.size a) (mXC px D cl ad G H.size) (mA ad G H.size)) (hm : mS D cl A s.heap ad G H locs) (hA : ∀ q, s.heap.size ≤ q → A q)
    (kx : ∀ (E : String) (ce : Cell) (q9 : Addr) (ad1 : Nat → Nat) (G1 : mG) (H1 : Heap) (locs1 : List Loc), px E (ad1, G1) → mS D cl A s.heap ad1 G1 H1 locs1 → H1[q9]? = some ce → ce.vm = .none → s.vm.findClass E = some ce.cls → vx_W p l e R s m args below meth c H1 locs1 (cells + mc) (slots + ms) Q (F0 m pc ls rest) q9)
    (kk : ∀ (ad1 : Nat → Nat) (G1 : mG) (H1 : Heap) (locs1 : List Loc), post (ad1, G1) → mS D cl A s.heap ad1 G1 H1 locs1 → W p l e R s m args below meth c H1 locs1 (cells + mc) (slots + ms) Q (F0 m (pc + 3) ls (rest))) : W p l e R s m args below meth c H locs cells slots Q (F0 m pc ls st0) := by
  refine vx_callv hr hm.2.2 (fun q _ h => hm.free hA q h) (hm.free hA) (fun q _ h => hm.free hA q h) (fun E ce q9 u t H1 locs1 ht hvm hp hB hz hk hS h7 h8 h9 => ?_) (fun u t H1 locs1 ht hvm hp hB hz hk hS => ?_)
  · obtain ⟨ad1, G1⟩ := u
    subst ht
    exact kx E ce q9 ad1 G1 _ _ hB.1 ⟨hB.2.1, fun r e h => hm.free hA _ (hB.2.2 r e h), hS⟩ h7 h8 h9
  · obtain ⟨ad1, G1⟩ := u
    subst ht
    exact kk ad1 G1 _ _ hp ⟨hB.1, fun r e h => hm.free hA _ (hB.2 r e h), hS⟩
theorem m_iret {post : Int32 → mU → Prop} {v : Int32} (hexec : p.tables.exec = Jvm.exec) (hb : c.code = cc) (hr : meth.sig.returnType = some .int) (hm : mS D cl (mA ad0 G0 s.heap.size) s.heap ad G H locs) (hp : post v (ad, G)) (hdg : decode cc pc = .ok (.ireturn, 1)) (hlocks : meth.locks = false) : W p l e R s m args below meth c H locs cells slots (MQ below (mQi post D cl ad0 G0 s.heap.size) args s cells slots (mA ad0 G0 s.heap.size)) (F0 m pc ls [.int v]) :=
  W.iret hexec hb hr (fun t ht hW => ⟨⟨v, (ad, G), rfl, hp, by rw [ht]; exact hm.1, hm.2.1⟩, hm.2.2.F ht⟩) hm.2.2.2.2 hdg hlocks
theorem m_zret {post : Int32 → mU → Prop} {v : Int32} (hexec : p.tables.exec = Jvm.exec) (hb : c.code = cc) (hr : meth.sig.returnType = some .boolean) (hn : narrow .boolean (.int v) = .int v) (hm : mS D cl (mA ad0 G0 s.heap.size) s.heap ad G H locs) (hp : post v (ad, G)) (hdg : decode cc pc = .ok (.ireturn, 1)) (hlocks : meth.locks = false) : W p l e R s m args below meth c H locs cells slots (MQ below (mQi post D cl ad0 G0 s.heap.size) args s cells slots (mA ad0 G0 s.heap.size)) (F0 m pc ls [.int v]) :=
  W.zret hexec hb hr hn (fun t ht hW => ⟨⟨v, (ad, G), rfl, hp, by rw [ht]; exact hm.1, hm.2.1⟩, hm.2.2.F ht⟩) hm.2.2.2.2 hdg hlocks
theorem m_lret {post : Int64 → mU → Prop} {v : Int64} (hexec : p.tables.exec = Jvm.exec) (hb : c.code = cc) (hr : meth.sig.returnType = some .long) (hm : mS D cl (mA ad0 G0 s.heap.size) s.heap ad G H locs) (hp : post v (ad, G)) (hdg : decode cc pc = .ok (.lreturn, 1)) (hlocks : meth.locks = false) : W p l e R s m args below meth c H locs cells slots (MQ below (mQl post D cl ad0 G0 s.heap.size) args s cells slots (mA ad0 G0 s.heap.size)) (F0 m pc ls [.long v]) :=
  W.lret hexec hb hr (fun t ht hW => ⟨⟨v, (ad, G), rfl, hp, by rw [ht]; exact hm.1, hm.2.1⟩, hm.2.2.F ht⟩) hm.2.2.2.2 hdg hlocks
theorem m_vret {post : mU → Prop} (hexec : p.tables.exec = Jvm.exec) (hb : c.code = cc) (hr : meth.sig.returnType = none) (hm : mS D cl (mA ad0 G0 s.heap.size) s.heap ad G H locs) (hp : post (ad, G)) (hdg : decode cc pc = .ok (.return_, 1)) (hlocks : meth.locks = false) : W p l e R s m args below meth c H locs cells slots (MQ below (mQv post D cl ad0 G0 s.heap.size) args s cells slots (mA ad0 G0 s.heap.size)) (F0 m pc ls []) :=
  W.vret hexec hb hr (fun t ht hW => ⟨⟨(ad, G), rfl, hp, by rw [ht]; exact hm.1, hm.2.1⟩, hm.2.2.F ht⟩) hm.2.2.2.2 hdg hlocks
theorem m_aret {post : Option Nat → mU → Prop} {v : Value} {r : Option Nat} {C : String} (hexec : p.tables.exec = Jvm.exec) (hb : c.code = cc) (hr : meth.sig.returnType = some (.object C)) (hv : v = va_rf r) (hm : mS D cl (mA ad0 G0 s.heap.size) s.heap ad G H locs) (hp : post r (ad, G)) (hdg : decode cc pc = .ok (.areturn, 1)) (hlocks : meth.locks = false) : W p l e R s m args below meth c H locs cells slots (MQ below (mQq post D cl ad0 G0 s.heap.size) args s cells slots (mA ad0 G0 s.heap.size)) (F0 m pc ls [v]) := by
  subst hv
  exact W.aret hexec hb hr (Or.inl ⟨C, rfl⟩) (va_rf_or r) (fun t ht hW => ⟨⟨r, (ad, G), rfl, hp, by rw [ht]; exact hm.1, hm.2.1⟩, hm.2.2.F ht⟩) hm.2.2.2.2 hdg hlocks
theorem m_throwS {px : String → mU → Prop} (hexec : p.tables.exec = Jvm.exec) (hb : c.code = cc) (hl : l.stackTraces = false) {cls text : String} {names : List String} {ik is ic : Nat}
    (hown : s.vm.findClass own = some m.cls) (hcls : Bundle.fit cls = true) (hnames : ∀ n ∈ names, Bundle.fit n = true)
    (hk : (Cond.classLink own ik cls).before args s = true) (hini : (Cond.initialized cls).before args s = true) (htx : (own, is, text) ∈ tx) (hC : mC D cl tys tx (mA ad0 G0 s.heap.size) s s.heap) (hat : ∀ w ∈ vx_atS own ic cls names, w.before args s = true)
    (hgood : ∀ w ∈ Cond.classLink own ik cls :: Cond.initialized cls :: vx_atS own ic cls names, vx_ot w = true) (hm : mS D cl (mA ad0 G0 s.heap.size) s.heap ad G H locs) (hsize : ls.size = c.maxLocals)
    (d0 : decode cc pc = .ok (.new ik, 3)) (d3 : decode cc (pc + 3) = .ok (.dup, 1)) (d4 : decode cc (pc + 4) = .ok (.ldc is, 2)) (d6 : decode cc (pc + 6) = .ok (.invokespecial ic, 3)) (d9 : decode cc (pc + 9) = .ok (.athrow, 1))
    (hout : ∀ x ∈ c.exceptionTable.toList, False)
    (hRframes : names.length + 3 < R.frames) (hRlocals : (rest.map fun v => v.category).sum + (13 * (names.length + 1) + 43) ≤ R.locals) (hRcells : cells + 1 ≤ R.cells) (hRslots : slots + 6 ≤ R.slots) (hlocks : meth.locks = false)
    (hp : px cls (ad, G)) (hc : cells + 1 ≤ mc) (hs : slots + 6 ≤ ms) :
    W p l e R s m args below meth c H locs cells slots (vx_MQ below Qc (mXC px D cl ad0 G0 s.heap.size) args s mc ms (mA ad0 G0 s.heap.size)) (F0 m pc ls rest) := by
  obtain ⟨sa, hstr⟩ := hC.2.2.1 _ htx
  exact vx_throwS hexec hb hl hown hcls hnames hk hini hstr hat hgood hC.2.1.1 hC.2.1.2 hm.2.2 hsize d0 d3 d4 d6 d9 (fun x hx => (hout x hx).elim) hRframes hRlocals hRcells hRslots hlocks
    (fun t hvm hz hq => ⟨(ad, G), trivial, ⟨hp, ⟨fun r e h => (hm.1.1 r e h).kept (hq _ (hm.1.1 r e h).lt), hm.1.2⟩, hm.2.1⟩, ⟨Nat.le_trans hm.2.2.1 hz, fun q h1 h2 => (hq q (Nat.lt_of_lt_of_le h1 hm.2.2.1)).trans (hm.2.2.2.1 q h1 h2)⟩⟩) hm.2.2.2.2 hc hs
theorem m_throwSW {px : String → mU → Prop} (hexec : p.tables.exec = Jvm.exec) (hb : c.code = cc) (hl : l.stackTraces = false) {cls text : String} {names : List String} {ik is ic : Nat}
    (hown : s.vm.findClass own = some m.cls) (hcls : Bundle.fit cls = true) (hnames : ∀ n ∈ names, Bundle.fit n = true)
    (hk : (Cond.classLink own ik cls).before args s = true) (hini : (Cond.initialized cls).before args s = true) (htx : (own, is, text) ∈ tx) (hC : mC D cl tys tx (mA ad0 G0 s.heap.size) s s.heap) (hat : ∀ w ∈ vx_atS own ic cls names, w.before args s = true)
    (hgood : ∀ w ∈ Cond.classLink own ik cls :: Cond.initialized cls :: vx_atS own ic cls names, vx_ot w = true) (hm : mS D cl (mA ad0 G0 s.heap.size) s.heap ad G H locs) (hsize : ls.size = c.maxLocals)
    (d0 : decode cc pc = .ok (.new ik, 3)) (d3 : decode cc (pc + 3) = .ok (.dup, 1)) (d4 : decode cc (pc + 4) = .ok (.ldc_w is, 3)) (d6 : decode cc (pc + 7) = .ok (.invokespecial ic, 3)) (d9 : decode cc (pc + 10) = .ok (.athrow, 1))
    (hout : ∀ x ∈ c.exceptionTable.toList, False)
    (hRframes : names.length + 3 < R.frames) (hRlocals : (rest.map fun v => v.category).sum + (13 * (names.length + 1) + 43) ≤ R.locals) (hRcells : cells + 1 ≤ R.cells) (hRslots : slots + 6 ≤ R.slots) (hlocks : meth.locks = false)
    (hp : px cls (ad, G)) (hc : cells + 1 ≤ mc) (hs : slots + 6 ≤ ms) :
    W p l e R s m args below meth c H locs cells slots (vx_MQ below Qc (mXC px D cl ad0 G0 s.heap.size) args s mc ms (mA ad0 G0 s.heap.size)) (F0 m pc ls rest) := by
  obtain ⟨sa, hstr⟩ := hC.2.2.1 _ htx
  exact vx_throwSW hexec hb hl hown hcls hnames hk hini hstr hat hgood hC.2.1.1 hC.2.1.2 hm.2.2 hsize d0 d3 d4 d6 d9 (fun x hx => (hout x hx).elim) hRframes hRlocals hRcells hRslots hlocks
    (fun t hvm hz hq => ⟨(ad, G), trivial, ⟨hp, ⟨fun r e h => (hm.1.1 r e h).kept (hq _ (hm.1.1 r e h).lt), hm.1.2⟩, hm.2.1⟩, ⟨Nat.le_trans hm.2.2.1 hz, fun q h1 h2 => (hq q (Nat.lt_of_lt_of_le h1 hm.2.2.1)).trans (hm.2.2.2.1 q h1 h2)⟩⟩) hm.2.2.2.2 hc hs
theorem m_out {px : String → mU → Prop} {E : String} {ce : Cell} {q : Addr} (hout : ∀ x ∈ c.exceptionTable.toList, False) (hlocks : meth.locks = false) (hm : mS D cl (mA ad0 G0 s.heap.size) s.heap ad G H locs) (hcell : H[q]? = some ce) (hv : ce.vm = .none) (hcl : s.vm.findClass E = some ce.cls) (hp : px E (ad, G)) (hc : cells ≤ mc) (hs : slots ≤ ms) :
    vx_W p l e R s m args below meth c H locs cells slots (vx_MQ below Qc (mXC px D cl ad0 G0 s.heap.size) args s mc ms (mA ad0 G0 s.heap.size)) (F0 m pc ls rest) q :=
  vx_out (fun x hx => (hout x hx).elim) hlocks hcell hv hcl (fun t ht hvm => ⟨(ad, G), trivial, ⟨hp, by rw [ht]; exact hm.1, hm.2.1⟩, hm.2.2.F ht⟩) hm.2.2.2.2 hc hs
theorem m_roi {ps : Int32 → Prop} (hr : va_Run p l e R s m args below meth c H locs cells slots mc ms (F0 m pc ls st0) rest (mQi (fun r u => ps r ∧ u = (ad, G)) D cl ad G H.size a) (mA ad G H.size)) (hm : mS D cl A s.heap ad G H locs) (hA : ∀ q, s.heap.size ≤ q → A q)
    (kk : ∀ (r : Int32) (H1 : Heap) (locs1 : List Loc), ps r → mS D cl A s.heap ad G H1 locs1 → W p l e R s m args below meth c H1 locs1 (cells + mc) (slots + ms) Q (F0 m (pc + 3) ls (.int r :: rest))) : W p l e R s m args below meth c H locs cells slots Q (F0 m pc ls st0) := by
  refine m_calli hr hm hA (fun r ad1 G1 H1 locs1 hp hm1 => ?_)
  obtain ⟨h1, h2⟩ := hp
  obtain ⟨e1, e2⟩ := Prod.mk.inj h2
  rw [e1, e2] at hm1
  exact kk r H1 locs1 h1 hm1
theorem x_roi {ps : Int32 → Prop} {px : String → Prop} (hr : vx_Run p l e R s m args below meth c H locs cells slots mc ms (F0 m pc ls st0) rest (mQi (fun r u => ps r ∧ u = (ad, G)) D cl ad G H.size a) (mXC (fun E u => px E ∧ u = (ad, G)) D cl ad G H.size) (mA ad G H.size)) (hm : mS D cl A s.heap ad G H locs) (hA : ∀ q, s.heap.size ≤ q → A q)
    (kx : ∀ (E : String) (ce : Cell) (q9 : Addr) (H1 : Heap) (locs1 : List Loc), px E → mS D cl A s.heap ad G H1 locs1 → H1[q9]? = some ce → ce.vm = .none → s.vm.findClass E = some ce.cls → vx_W p l e R s m args below meth c H1 locs1 (cells + mc) (slots + ms) Q (F0 m pc ls rest) q9)
    (kk : ∀ (r : Int32) (H1 : Heap) (locs1 : List Loc), ps r → mS D cl A s.heap ad G H1 locs1 → W p l e R s m args below meth c H1 locs1 (cells + mc) (slots + ms) Q (F0 m (pc + 3) ls (.int r :: rest))) : W p l e R s m args below meth c H locs cells slots Q (F0 m pc ls st0) := by
  refine x_calli hr hm hA (fun E ce q9 ad1 G1 H1 locs1 hp hm1 h7 h8 h9 => ?_) (fun r ad1 G1 H1 locs1 hp hm1 => ?_)
  · obtain ⟨h1, h2⟩ := hp
    obtain ⟨e1, e2⟩ := Prod.mk.inj h2
    rw [e1, e2] at hm1
    exact kx E ce q9 H1 locs1 h1 hm1 h7 h8 h9
  · obtain ⟨h1, h2⟩ := hp
    obtain ⟨e1, e2⟩ := Prod.mk.inj h2
    rw [e1, e2] at hm1
    exact kk r H1 locs1 h1 hm1
theorem m_rol {ps : Int64 → Prop} (hr : va_Run p l e R s m args below meth c H locs cells slots mc ms (F0 m pc ls st0) rest (mQl (fun r u => ps r ∧ u = (ad, G)) D cl ad G H.size a) (mA ad G H.size)) (hm : mS D cl A s.heap ad G H locs) (hA : ∀ q, s.heap.size ≤ q → A q)
    (kk : ∀ (r : Int64) (H1 : Heap) (locs1 : List Loc), ps r → mS D cl A s.heap ad G H1 locs1 → W p l e R s m args below meth c H1 locs1 (cells + mc) (slots + ms) Q (F0 m (pc + 3) ls (.long r :: rest))) : W p l e R s m args below meth c H locs cells slots Q (F0 m pc ls st0) := by
  refine m_calll hr hm hA (fun r ad1 G1 H1 locs1 hp hm1 => ?_)
  obtain ⟨h1, h2⟩ := hp
  obtain ⟨e1, e2⟩ := Prod.mk.inj h2
  rw [e1, e2] at hm1
  exact kk r H1 locs1 h1 hm1
theorem x_rol {ps : Int64 → Prop} {px : String → Prop} (hr : vx_Run p l e R s m args below meth c H locs cells slots mc ms (F0 m pc ls st0) rest (mQl (fun r u => ps r ∧ u = (ad, G)) D cl ad G H.size a) (mXC (fun E u => px E ∧ u = (ad, G)) D cl ad G H.size) (mA ad G H.size)) (hm : mS D cl A s.heap ad G H locs) (hA : ∀ q, s.heap.size ≤ q → A q)
    (kx : ∀ (E : String) (ce : Cell) (q9 : Addr) (H1 : Heap) (locs1 : List Loc), px E → mS D cl A s.heap ad G H1 locs1 → H1[q9]? = some ce → ce.vm = .none → s.vm.findClass E = some ce.cls → vx_W p l e R s m args below meth c H1 locs1 (cells + mc) (slots + ms) Q (F0 m pc ls rest) q9)
    (kk : ∀ (r : Int64) (H1 : Heap) (locs1 : List Loc), ps r → mS D cl A s.heap ad G H1 locs1 → W p l e R s m args below meth c H1 locs1 (cells + mc) (slots + ms) Q (F0 m (pc + 3) ls (.long r :: rest))) : W p l e R s m args below meth c H locs cells slots Q (F0 m pc ls st0) := by
  refine x_calll hr hm hA (fun E ce q9 ad1 G1 H1 locs1 hp hm1 h7 h8 h9 => ?_) (fun r ad1 G1 H1 locs1 hp hm1 => ?_)
  · obtain ⟨h1, h2⟩ := hp
    obtain ⟨e1, e2⟩ := Prod.mk.inj h2
    rw [e1, e2] at hm1
    exact kx E ce q9 H1 locs1 h1 hm1 h7 h8 h9
  · obtain ⟨h1, h2⟩ := hp
    obtain ⟨e1, e2⟩ := Prod.mk.inj h2
    rw [e1, e2] at hm1
    exact kk r H1 locs1 h1 hm1
theorem m_roq {ps : Option Nat → Prop} (hr : va_Run p l e R s m args below meth c H locs cells slots mc ms (F0 m pc ls st0) rest (mQq (fun r u => ps r ∧ u = (ad, G)) D cl ad G H.size a) (mA ad G H.size)) (hm : mS D cl A s.heap ad G H locs) (hA : ∀ q, s.heap.size ≤ q → A q)
    (kk : ∀ (r : Option Nat) (H1 : Heap) (locs1 : List Loc), ps r → mS D cl A s.heap ad G H1 locs1 → W p l e R s m args below meth c H1 locs1 (cells + mc) (slots + ms) Q (F0 m (pc + 3) ls (va_rf r :: rest))) : W p l e R s m args below meth c H locs cells slots Q (F0 m pc ls st0) := by
  refine m_callq hr hm hA (fun r ad1 G1 H1 locs1 hp hm1 => ?_)
  obtain ⟨h1, h2⟩ := hp
  obtain ⟨e1, e2⟩ := Prod.mk.inj h2
  rw [e1, e2] at hm1
  exact kk r H1 locs1 h1 hm1
theorem x_roq {ps : Option Nat → Prop} {px : String → Prop} (hr : vx_Run p l e R s m args below meth c H locs cells slots mc ms (F0 m pc ls st0) rest (mQq (fun r u => ps r ∧ u = (ad, G)) D cl ad G H.size a) (mXC (fun E u => px E ∧ u = (ad, G)) D cl ad G H.size) (mA ad G H.size)) (hm : mS D cl A s.heap ad G H locs) (hA : ∀ q, s.heap.size ≤ q → A q)
    (kx : ∀ (E : String) (ce : Cell) (q9 : Addr) (H1 : Heap) (locs1 : List Loc), px E → mS D cl A s.heap ad G H1 locs1 → H1[q9]? = some ce → ce.vm = .none → s.vm.findClass E = some ce.cls → vx_W p l e R s m args below meth c H1 locs1 (cells + mc) (slots + ms) Q (F0 m pc ls rest) q9)
    (kk : ∀ (r : Option Nat) (H1 : Heap) (locs1 : List Loc), ps r → mS D cl A s.heap ad G H1 locs1 → W p l e R s m args below meth c H1 locs1 (cells + mc) (slots + ms) Q (F0 m (pc + 3) ls (va_rf r :: rest))) : W p l e R s m args below meth c H locs cells slots Q (F0 m pc ls st0) := by
  refine x_callq hr hm hA (fun E ce q9 ad1 G1 H1 locs1 hp hm1 h7 h8 h9 => ?_) (fun r ad1 G1 H1 locs1 hp hm1 => ?_)
  · obtain ⟨h1, h2⟩ := hp
    obtain ⟨e1, e2⟩ := Prod.mk.inj h2
    rw [e1, e2] at hm1
    exact kx E ce q9 H1 locs1 h1 hm1 h7 h8 h9
  · obtain ⟨h1, h2⟩ := hp
    obtain ⟨e1, e2⟩ := Prod.mk.inj h2
    rw [e1, e2] at hm1
    exact kk r H1 locs1 h1 hm1
/-- a loop: its state x of type τ, a measure n that falls, what its locals and its world hold -/
theorem m_loopH {τ : Type} {head nL : Nat} (I : Nat → τ → Prop) (lv : τ → List (Nat × Value)) (Gx : τ → mG)
    (h0 : ∀ x, ¬ I 0 x) (kk : ∀ (n : Nat) (x : τ) (ls : Array Slot) (H : Heap) (locs : List Loc), I (n + 1) x → lv_has ls nL (lv x) → mS D cl A s.heap ad (Gx x) H locs →
      (∀ (y : τ) (ls' : Array Slot) (H' : Heap) (locs' : List Loc), I n y → lv_has ls' nL (lv y) → mS D cl A s.heap ad (Gx y) H' locs' → W p l e R s m args below meth c H' locs' cells slots Q (F0 m head ls' [])) →
      W p l e R s m args below meth c H locs cells slots Q (F0 m head ls [])) (n : Nat) (x : τ) (hI : I (n + 1) x) (hl : lv_has ls nL (lv x)) (hm : mS D cl A s.heap ad (Gx x) H locs) : W p l e R s m args below meth c H locs cells slots Q (F0 m head ls []) := by
  induction n generalizing x ls H locs with
  | zero => exact kk 0 x ls H locs hI hl hm (fun y ls' H' locs' h1 h2 h3 => absurd h1 (h0 y))
  | succ n ih => exact kk (n + 1) x ls H locs hI hl hm (fun y ls' H' locs' h1 h2 h3 => ih y h1 h2 h3)
end MCALLS
end
section
theorem k_0 : (Cond.initialized "EdgeWearLaw") ∈ mBig := mBig_in 16 (by decide +kernel) rfl
theorem k_1 : (Cond.initialized "EdgeWear") ∈ mBig := mBig_in 17 (by decide +kernel) rfl
theorem k_2 : (Cond.initialized "EdgeWear$Sort") ∈ mBig := mBig_in 18 (by decide +kernel) rfl
theorem k_3 : (Cond.initialized "EdgeWear$Rules") ∈ mBig := mBig_in 19 (by decide +kernel) rfl
theorem k_4 : (Cond.initialized "EdgeWearModel") ∈ mBig := mBig_in 20 (by decide +kernel) rfl
theorem k_5 : (Cond.initialized "java/lang/Throwable") ∈ mBig := mBig_in 21 (by decide +kernel) rfl
theorem k_6 : (Cond.initialized "java/lang/Exception") ∈ mBig := mBig_in 22 (by decide +kernel) rfl
theorem k_7 : (Cond.initialized "java/lang/RuntimeException") ∈ mBig := mBig_in 23 (by decide +kernel) rfl
theorem k_8 : (Cond.initialized "java/lang/IndexOutOfBoundsException") ∈ mBig := mBig_in 24 (by decide +kernel) rfl
theorem k_9 : (Cond.initialized "java/lang/IllegalArgumentException") ∈ mBig := mBig_in 25 (by decide +kernel) rfl
theorem k_10 : (Cond.initialized "java/lang/IllegalStateException") ∈ mBig := mBig_in 26 (by decide +kernel) rfl
theorem k_11 : (Cond.initialized "EdgeWear$Tool") ∈ mBig := mBig_in 27 (by decide +kernel) rfl
theorem k_12 : (Cond.initialized "EdgeWear$Readings") ∈ mBig := mBig_in 28 (by decide +kernel) rfl
theorem k_13 : (Cond.initialized "java/lang/Math") ∈ mBig := mBig_in 29 (by decide +kernel) rfl
theorem k_14 : (Cond.initialized "java/lang/System") ∈ mBig := mBig_in 30 (by decide +kernel) rfl
theorem k_15 : (Cond.initialized "EdgeWear$Order") ∈ mBig := mBig_in 31 (by decide +kernel) rfl
theorem k_16 : (Cond.classLink "EdgeWearLaw" 8 "EdgeWear") ∈ mBig := mBig_in 32 (by decide +kernel) rfl
theorem k_17 : (Cond.instantiable "EdgeWear" 8) ∈ mBig := mBig_in 33 (by decide +kernel) rfl
theorem k_18 : (Cond.methodLink "EdgeWearLaw" 90 ⟨"EdgeWear", "<init>", "(I)V"⟩) ∈ mBig := mBig_in 34 (by decide +kernel) rfl
theorem k_19 : (Cond.instanceMethod ⟨"EdgeWear", "<init>", "(I)V"⟩) ∈ mBig := mBig_in 35 (by decide +kernel) rfl
set_option maxRecDepth 100000 in
theorem k_20 : (Cond.code ⟨"EdgeWear", "<init>", "(I)V"⟩ prog_1_method_1_code 3 none) ∈ mBig := mBig_in 36 (rfl) rfl
theorem k_21 : (Cond.methodLink "EdgeWear" 1 ⟨"java/lang/Object", "<init>", "()V"⟩) ∈ mBig := mBig_in 37 (by decide +kernel) rfl
theorem k_22 : (Cond.instanceMethod ⟨"java/lang/Object", "<init>", "()V"⟩) ∈ mBig := mBig_in 38 (by decide +kernel) rfl
set_option maxRecDepth 100000 in
theorem k_23 : (Cond.code ⟨"java/lang/Object", "<init>", "()V"⟩ object_method_1_code 1 none) ∈ mBig := mBig_in 39 (rfl) rfl
theorem k_24 : (Cond.classLink "EdgeWear" 17 "EdgeWear$Sort") ∈ mBig := mBig_in 40 (by decide +kernel) rfl
theorem k_26 : (Cond.instantiable "EdgeWear$Sort" 6) ∈ mBig := mBig_in 42 (by decide +kernel) rfl
theorem k_27 : (Cond.methodLink "EdgeWear" 23 ⟨"EdgeWear$Sort", "<init>", "(I)V"⟩) ∈ mBig := mBig_in 43 (by decide +kernel) rfl
theorem k_28 : (Cond.instanceMethod ⟨"EdgeWear$Sort", "<init>", "(I)V"⟩) ∈ mBig := mBig_in 44 (by decide +kernel) rfl
set_option maxRecDepth 100000 in
theorem k_29 : (Cond.code ⟨"EdgeWear$Sort", "<init>", "(I)V"⟩ prog_5_method_1_code 2 none) ∈ mBig := mBig_in 45 (rfl) rfl
theorem k_30 : (Cond.methodLink "EdgeWear$Sort" 3 ⟨"java/lang/Object", "<init>", "()V"⟩) ∈ mBig := mBig_in 46 (by decide +kernel) rfl
theorem k_31 : (Cond.constantLong "EdgeWear$Sort" 19 (1000000 : Int64)) ∈ mBig := mBig_in 47 (by decide +kernel) rfl
theorem k_32 : (Cond.fieldLink "EdgeWear$Sort" 9 "EdgeWear$Sort" "number" "I") ∈ mBig := mBig_in 48 (by decide +kernel) rfl
theorem k_33 : (Cond.fieldLink "EdgeWear$Tool" 56 "EdgeWear$Sort" "number" "I") ∈ mBig := mBig_in 49 (by decide +kernel) rfl
theorem k_34 : (Cond.fieldLink "EdgeWear" 118 "EdgeWear$Sort" "number" "I") ∈ mBig := mBig_in 50 (by decide +kernel) rfl
theorem k_35 : (Cond.fieldLink "EdgeWear$Sort" 15 "EdgeWear$Sort" "lives" "[I") ∈ mBig := mBig_in 51 (by decide +kernel) rfl
theorem k_36 : (Cond.fieldLink "EdgeWear" 151 "EdgeWear$Sort" "lives" "[I") ∈ mBig := mBig_in 52 (by decide +kernel) rfl
theorem k_37 : (Cond.fieldLink "EdgeWear$Sort" 31 "EdgeWear$Sort" "lifeCount" "I") ∈ mBig := mBig_in 53 (by decide +kernel) rfl
theorem k_38 : (Cond.fieldLink "EdgeWear" 148 "EdgeWear$Sort" "lifeCount" "I") ∈ mBig := mBig_in 54 (by decide +kernel) rfl
theorem k_39 : (Cond.fieldLink "EdgeWear$Sort" 21 "EdgeWear$Sort" "wearLimit" "J") ∈ mBig := mBig_in 55 (by decide +kernel) rfl
theorem k_40 : (Cond.fieldLink "EdgeWear$Tool" 51 "EdgeWear$Sort" "wearLimit" "J") ∈ mBig := mBig_in 56 (by decide +kernel) rfl
theorem k_41 : (Cond.fieldLink "EdgeWear" 78 "EdgeWear$Sort" "wearLimit" "J") ∈ mBig := mBig_in 57 (by decide +kernel) rfl
theorem k_42 : (Cond.fieldLink "EdgeWear$Sort" 25 "EdgeWear$Sort" "changeCost" "I") ∈ mBig := mBig_in 58 (by decide +kernel) rfl
theorem k_43 : (Cond.fieldLink "EdgeWear" 158 "EdgeWear$Sort" "changeCost" "I") ∈ mBig := mBig_in 59 (by decide +kernel) rfl
theorem k_44 : (Cond.fieldLink "EdgeWear$Sort" 28 "EdgeWear$Sort" "failCost" "I") ∈ mBig := mBig_in 60 (by decide +kernel) rfl
theorem k_45 : (Cond.fieldLink "EdgeWear" 161 "EdgeWear$Sort" "failCost" "I") ∈ mBig := mBig_in 61 (by decide +kernel) rfl
theorem k_59 : (Cond.arrayClass FieldType.int) ∈ mBig := mBig_in 75 (by decide +kernel) rfl
theorem k_60 : (Cond.classLink "EdgeWear" 26 "EdgeWear$Tool") ∈ mBig := mBig_in 76 (by decide +kernel) rfl
theorem k_62 : (Cond.classLink "EdgeWear" 32 "EdgeWear$Order") ∈ mBig := mBig_in 78 (by decide +kernel) rfl
theorem k_64 : (Cond.classLink "EdgeWear" 38 "EdgeWear$Rules") ∈ mBig := mBig_in 80 (by decide +kernel) rfl
theorem k_65 : (Cond.instantiable "EdgeWear$Rules" 4) ∈ mBig := mBig_in 81 (by decide +kernel) rfl
theorem k_66 : (Cond.methodLink "EdgeWear" 40 ⟨"EdgeWear$Rules", "<init>", "()V"⟩) ∈ mBig := mBig_in 82 (by decide +kernel) rfl
theorem k_67 : (Cond.instanceMethod ⟨"EdgeWear$Rules", "<init>", "()V"⟩) ∈ mBig := mBig_in 83 (by decide +kernel) rfl
set_option maxRecDepth 100000 in
theorem k_68 : (Cond.code ⟨"EdgeWear$Rules", "<init>", "()V"⟩ prog_4_method_1_code 1 none) ∈ mBig := mBig_in 84 (rfl) rfl
theorem k_69 : (Cond.methodLink "EdgeWear$Rules" 3 ⟨"java/lang/Object", "<init>", "()V"⟩) ∈ mBig := mBig_in 85 (by decide +kernel) rfl
theorem k_70 : (Cond.fieldLink "EdgeWear$Rules" 9 "EdgeWear$Rules" "high" "I") ∈ mBig := mBig_in 86 (by decide +kernel) rfl
theorem k_71 : (Cond.fieldLink "EdgeWear" 195 "EdgeWear$Rules" "high" "I") ∈ mBig := mBig_in 87 (by decide +kernel) rfl
theorem k_72 : (Cond.fieldLink "EdgeWear$Rules" 15 "EdgeWear$Rules" "run" "I") ∈ mBig := mBig_in 88 (by decide +kernel) rfl
theorem k_73 : (Cond.fieldLink "EdgeWear" 198 "EdgeWear$Rules" "run" "I") ∈ mBig := mBig_in 89 (by decide +kernel) rfl
theorem k_74 : (Cond.fieldLink "EdgeWear$Rules" 18 "EdgeWear$Rules" "middle" "I") ∈ mBig := mBig_in 90 (by decide +kernel) rfl
theorem k_75 : (Cond.fieldLink "EdgeWear" 201 "EdgeWear$Rules" "middle" "I") ∈ mBig := mBig_in 91 (by decide +kernel) rfl
theorem k_76 : (Cond.fieldLink "EdgeWear$Rules" 21 "EdgeWear$Rules" "jump" "I") ∈ mBig := mBig_in 92 (by decide +kernel) rfl
theorem k_77 : (Cond.fieldLink "EdgeWear" 204 "EdgeWear$Rules" "jump" "I") ∈ mBig := mBig_in 93 (by decide +kernel) rfl
theorem k_87 : (Cond.fieldLink "EdgeWear" 7 "EdgeWear" "seed" "I") ∈ mBig := mBig_in 103 (by decide +kernel) rfl
theorem k_88 : (Cond.fieldLink "EdgeWear" 13 "EdgeWear" "rates" "[I") ∈ mBig := mBig_in 104 (by decide +kernel) rfl
theorem k_89 : (Cond.fieldLink "EdgeWear" 19 "EdgeWear" "sorts" "[LEdgeWear$Sort;") ∈ mBig := mBig_in 105 (by decide +kernel) rfl
theorem k_90 : (Cond.fieldLink "EdgeWear" 28 "EdgeWear" "tools" "[LEdgeWear$Tool;") ∈ mBig := mBig_in 106 (by decide +kernel) rfl
theorem k_91 : (Cond.fieldLink "EdgeWear" 34 "EdgeWear" "orders" "[LEdgeWear$Order;") ∈ mBig := mBig_in 107 (by decide +kernel) rfl
theorem k_92 : (Cond.fieldLink "EdgeWear" 41 "EdgeWear" "powerRules" "LEdgeWear$Rules;") ∈ mBig := mBig_in 108 (by decide +kernel) rfl
theorem k_93 : (Cond.fieldLink "EdgeWear" 57 "EdgeWear" "toolCount" "I") ∈ mBig := mBig_in 109 (by decide +kernel) rfl
theorem k_94 : (Cond.fieldLink "EdgeWear" 230 "EdgeWear" "orderCount" "I") ∈ mBig := mBig_in 110 (by decide +kernel) rfl
theorem k_112 : (Cond.methodLink "EdgeWearLaw" 163 ⟨"EdgeWear", "open", "()I"⟩) ∈ mBig := mBig_in 128 (by decide +kernel) rfl
theorem k_113 : (Cond.instanceMethod ⟨"EdgeWear", "open", "()I"⟩) ∈ mBig := mBig_in 129 (by decide +kernel) rfl
theorem k_114 : (Cond.selects "EdgeWear" ⟨"EdgeWear", "open", "()I"⟩ ⟨"EdgeWear", "open", "()I"⟩) ∈ mBig := mBig_in 130 (by decide +kernel) rfl
set_option maxRecDepth 100000 in
theorem k_115 : (Cond.code ⟨"EdgeWear", "open", "()I"⟩ prog_1_method_20_code 4 (some FieldType.int)) ∈ mBig := mBig_in 131 (rfl) rfl
theorem k_116 : (Cond.methodLink "EdgeWearLaw" 84 ⟨"EdgeWearLaw", "cell", "([II)I"⟩) ∈ mBig := mBig_in 132 (by decide +kernel) rfl
theorem k_117 : (Cond.static ⟨"EdgeWearLaw", "cell", "([II)I"⟩) ∈ mBig := mBig_in 133 (by decide +kernel) rfl
set_option maxRecDepth 100000 in
theorem k_118 : (Cond.code ⟨"EdgeWearLaw", "cell", "([II)I"⟩ method_2_code 2 (some FieldType.int)) ∈ mBig := mBig_in 134 (rfl) rfl
theorem k_119 : (Cond.methodLink "EdgeWearLaw" 96 ⟨"EdgeWearLaw", "tool", "(LEdgeWear;III[J)I"⟩) ∈ mBig := mBig_in 135 (by decide +kernel) rfl
theorem k_120 : (Cond.static ⟨"EdgeWearLaw", "tool", "(LEdgeWear;III[J)I"⟩) ∈ mBig := mBig_in 136 (by decide +kernel) rfl
set_option maxRecDepth 100000 in
theorem k_121 : (Cond.codeWith ⟨"EdgeWearLaw", "tool", "(LEdgeWear;III[J)I"⟩ method_3_code 6 (some FieldType.int) [(0, 12, 15, 13), (0, 12, 19, 15), (0, 12, 23, 17)]) ∈ mBig := mBig_in 137 (rfl) rfl
theorem k_122 : (Cond.classLink "EdgeWearLaw" 13 "java/lang/IndexOutOfBoundsException") ∈ mBig := mBig_in 138 (by decide +kernel) rfl
theorem k_123 : (Cond.classLink "EdgeWearLaw" 15 "java/lang/IllegalArgumentException") ∈ mBig := mBig_in 139 (by decide +kernel) rfl
theorem k_124 : (Cond.classLink "EdgeWearLaw" 17 "java/lang/IllegalStateException") ∈ mBig := mBig_in 140 (by decide +kernel) rfl
theorem k_125 : (Cond.methodLink "EdgeWearLaw" 7 ⟨"EdgeWear", "tool", "(III)I"⟩) ∈ mBig := mBig_in 141 (by decide +kernel) rfl
theorem k_126 : (Cond.instanceMethod ⟨"EdgeWear", "tool", "(III)I"⟩) ∈ mBig := mBig_in 142 (by decide +kernel) rfl
theorem k_127 : (Cond.selects "EdgeWear" ⟨"EdgeWear", "tool", "(III)I"⟩ ⟨"EdgeWear", "tool", "(III)I"⟩) ∈ mBig := mBig_in 143 (by decide +kernel) rfl
set_option maxRecDepth 100000 in
theorem k_128 : (Cond.code ⟨"EdgeWear", "tool", "(III)I"⟩ prog_1_method_2_code 6 (some FieldType.int)) ∈ mBig := mBig_in 144 (rfl) rfl
theorem k_129 : (Cond.methodLink "EdgeWear" 45 ⟨"EdgeWear", "sortAt", "(I)LEdgeWear$Sort;"⟩) ∈ mBig := mBig_in 145 (by decide +kernel) rfl
theorem k_131 : (Cond.instanceMethod ⟨"EdgeWear", "sortAt", "(I)LEdgeWear$Sort;"⟩) ∈ mBig := mBig_in 147 (by decide +kernel) rfl
set_option maxRecDepth 100000 in
theorem k_132 : (Cond.code ⟨"EdgeWear", "sortAt", "(I)LEdgeWear$Sort;"⟩ prog_1_method_23_code 3 (some (FieldType.object "EdgeWear$Sort"))) ∈ mBig := mBig_in 148 (rfl) rfl
theorem k_133 : (Cond.classLink "EdgeWear" 131 "java/lang/IndexOutOfBoundsException") ∈ mBig := mBig_in 149 (by decide +kernel) rfl
theorem k_134 : (Cond.instantiable "java/lang/IndexOutOfBoundsException" 6) ∈ mBig := mBig_in 150 (by decide +kernel) rfl
theorem k_142 : (Cond.selects "java/lang/IndexOutOfBoundsException" ⟨"java/lang/Throwable", "fillInStackTrace", "(I)Ljava/lang/Throwable;"⟩ ⟨"java/lang/Throwable", "fillInStackTrace", "(I)Ljava/lang/Throwable;"⟩) ∈ mBig := mBig_in 158 (by decide +kernel) rfl
theorem k_143 : (Cond.selects "java/lang/IndexOutOfBoundsException" ⟨"java/lang/Throwable", "fillInStackTrace", "()Ljava/lang/Throwable;"⟩ ⟨"java/lang/Throwable", "fillInStackTrace", "()Ljava/lang/Throwable;"⟩) ∈ mBig := mBig_in 159 (by decide +kernel) rfl
theorem k_154 : (Cond.fieldLink "java/lang/Throwable" 198 "java/lang/Throwable" "backtrace" "Ljava/lang/Object;") ∈ mBig := mBig_in 170 (by decide +kernel) rfl
theorem k_156 : (Cond.instanceMethod ⟨"java/lang/Throwable", "<init>", "()V"⟩) ∈ mBig := mBig_in 172 (by decide +kernel) rfl
set_option maxRecDepth 100000 in
theorem k_157 : (Cond.code ⟨"java/lang/Throwable", "<init>", "()V"⟩ prog_17_method_1_code 1 none) ∈ mBig := mBig_in 173 (rfl) rfl
theorem k_158 : (Cond.methodLink "java/lang/Throwable" 1 ⟨"java/lang/Object", "<init>", "()V"⟩) ∈ mBig := mBig_in 174 (by decide +kernel) rfl
theorem k_159 : (Cond.fieldLink "java/lang/Throwable" 13 "java/lang/Throwable" "UNASSIGNED_STACK" "[Ljava/lang/StackTraceElement;") ∈ mBig := mBig_in 175 (by decide +kernel) rfl
theorem k_161 : (Cond.fieldLink "java/lang/Throwable" 20 "java/lang/Throwable" "SUPPRESSED_SENTINEL" "Ljava/util/List;") ∈ mBig := mBig_in 177 (by decide +kernel) rfl
theorem k_163 : (Cond.methodLink "java/lang/Throwable" 27 ⟨"java/lang/Throwable", "fillInStackTrace", "()Ljava/lang/Throwable;"⟩) ∈ mBig := mBig_in 179 (by decide +kernel) rfl
theorem k_164 : (Cond.instanceMethod ⟨"java/lang/Throwable", "fillInStackTrace", "()Ljava/lang/Throwable;"⟩) ∈ mBig := mBig_in 180 (by decide +kernel) rfl
theorem k_166 : (Cond.selects "java/lang/IllegalArgumentException" ⟨"java/lang/Throwable", "fillInStackTrace", "()Ljava/lang/Throwable;"⟩ ⟨"java/lang/Throwable", "fillInStackTrace", "()Ljava/lang/Throwable;"⟩) ∈ mBig := mBig_in 182 (by decide +kernel) rfl
theorem k_167 : (Cond.selects "java/lang/IllegalStateException" ⟨"java/lang/Throwable", "fillInStackTrace", "()Ljava/lang/Throwable;"⟩ ⟨"java/lang/Throwable", "fillInStackTrace", "()Ljava/lang/Throwable;"⟩) ∈ mBig := mBig_in 183 (by decide +kernel) rfl
theorem k_169 : (Cond.methodLink "java/lang/Throwable" 202 ⟨"java/lang/Throwable", "fillInStackTrace", "(I)Ljava/lang/Throwable;"⟩) ∈ mBig := mBig_in 185 (by decide +kernel) rfl
theorem k_171 : (Cond.instanceMethod ⟨"java/lang/Throwable", "fillInStackTrace", "(I)Ljava/lang/Throwable;"⟩) ∈ mBig := mBig_in 187 (by decide +kernel) rfl
theorem k_172 : (Cond.instantiable "java/lang/Throwable" 6) ∈ mBig := mBig_in 188 (by decide +kernel) rfl
theorem k_173 : (Cond.native ⟨"java/lang/Throwable", "fillInStackTrace", "(I)Ljava/lang/Throwable;"⟩) ∈ mBig := mBig_in 189 (by decide +kernel) rfl
theorem k_175 : (Cond.methodLink "EdgeWear" 135 ⟨"java/lang/IndexOutOfBoundsException", "<init>", "(Ljava/lang/String;)V"⟩) ∈ mBig := mBig_in 191 (by decide +kernel) rfl
theorem k_176 : (Cond.instanceMethod ⟨"java/lang/IndexOutOfBoundsException", "<init>", "(Ljava/lang/String;)V"⟩) ∈ mBig := mBig_in 192 (by decide +kernel) rfl
set_option maxRecDepth 100000 in
theorem k_177 : (Cond.code ⟨"java/lang/IndexOutOfBoundsException", "<init>", "(Ljava/lang/String;)V"⟩ prog_12_method_2_code 2 none) ∈ mBig := mBig_in 193 (rfl) rfl
theorem k_178 : (Cond.methodLink "java/lang/IndexOutOfBoundsException" 7 ⟨"java/lang/RuntimeException", "<init>", "(Ljava/lang/String;)V"⟩) ∈ mBig := mBig_in 194 (by decide +kernel) rfl
theorem k_179 : (Cond.instanceMethod ⟨"java/lang/RuntimeException", "<init>", "(Ljava/lang/String;)V"⟩) ∈ mBig := mBig_in 195 (by decide +kernel) rfl
set_option maxRecDepth 100000 in
theorem k_180 : (Cond.code ⟨"java/lang/RuntimeException", "<init>", "(Ljava/lang/String;)V"⟩ prog_14_method_2_code 2 none) ∈ mBig := mBig_in 196 (rfl) rfl
theorem k_181 : (Cond.methodLink "java/lang/RuntimeException" 7 ⟨"java/lang/Exception", "<init>", "(Ljava/lang/String;)V"⟩) ∈ mBig := mBig_in 197 (by decide +kernel) rfl
theorem k_182 : (Cond.instanceMethod ⟨"java/lang/Exception", "<init>", "(Ljava/lang/String;)V"⟩) ∈ mBig := mBig_in 198 (by decide +kernel) rfl
set_option maxRecDepth 100000 in
theorem k_183 : (Cond.code ⟨"java/lang/Exception", "<init>", "(Ljava/lang/String;)V"⟩ prog_9_method_2_code 2 none) ∈ mBig := mBig_in 199 (rfl) rfl
theorem k_184 : (Cond.methodLink "java/lang/Exception" 7 ⟨"java/lang/Throwable", "<init>", "(Ljava/lang/String;)V"⟩) ∈ mBig := mBig_in 200 (by decide +kernel) rfl
theorem k_185 : (Cond.instanceMethod ⟨"java/lang/Throwable", "<init>", "(Ljava/lang/String;)V"⟩) ∈ mBig := mBig_in 201 (by decide +kernel) rfl
set_option maxRecDepth 100000 in
theorem k_186 : (Cond.code ⟨"java/lang/Throwable", "<init>", "(Ljava/lang/String;)V"⟩ prog_17_method_2_code 2 none) ∈ mBig := mBig_in 202 (rfl) rfl
theorem k_188 : (Cond.fieldLink "java/lang/Throwable" 31 "java/lang/Throwable" "detailMessage" "Ljava/lang/String;") ∈ mBig := mBig_in 204 (by decide +kernel) rfl
theorem k_189 : (Cond.fieldLink "java/lang/Throwable" 7 "java/lang/Throwable" "cause" "Ljava/lang/Throwable;") ∈ mBig := mBig_in 205 (by decide +kernel) rfl
theorem k_190 : (Cond.fieldLink "java/lang/Throwable" 17 "java/lang/Throwable" "stackTrace" "[Ljava/lang/StackTraceElement;") ∈ mBig := mBig_in 206 (by decide +kernel) rfl
theorem k_191 : (Cond.fieldLink "java/lang/Throwable" 24 "java/lang/Throwable" "suppressedExceptions" "Ljava/util/List;") ∈ mBig := mBig_in 207 (by decide +kernel) rfl
theorem k_200 : (Cond.arrayClass FieldType.byte) ∈ mBig := mBig_in 216 (by decide +kernel) rfl
theorem k_201 : (Cond.constant "EdgeWear" 49 (1000000 : Int32)) ∈ mBig := mBig_in 217 (by decide +kernel) rfl
theorem k_202 : (Cond.classLink "EdgeWear" 50 "java/lang/IllegalArgumentException") ∈ mBig := mBig_in 218 (by decide +kernel) rfl
theorem k_203 : (Cond.instantiable "java/lang/IllegalArgumentException" 6) ∈ mBig := mBig_in 219 (by decide +kernel) rfl
theorem k_205 : (Cond.selects "java/lang/IllegalArgumentException" ⟨"java/lang/Throwable", "fillInStackTrace", "(I)Ljava/lang/Throwable;"⟩ ⟨"java/lang/Throwable", "fillInStackTrace", "(I)Ljava/lang/Throwable;"⟩) ∈ mBig := mBig_in 221 (by decide +kernel) rfl
theorem k_212 : (Cond.methodLink "EdgeWear" 54 ⟨"java/lang/IllegalArgumentException", "<init>", "(Ljava/lang/String;)V"⟩) ∈ mBig := mBig_in 228 (by decide +kernel) rfl
theorem k_213 : (Cond.instanceMethod ⟨"java/lang/IllegalArgumentException", "<init>", "(Ljava/lang/String;)V"⟩) ∈ mBig := mBig_in 229 (by decide +kernel) rfl
set_option maxRecDepth 100000 in
theorem k_214 : (Cond.code ⟨"java/lang/IllegalArgumentException", "<init>", "(Ljava/lang/String;)V"⟩ prog_10_method_2_code 2 none) ∈ mBig := mBig_in 230 (rfl) rfl
theorem k_215 : (Cond.methodLink "java/lang/IllegalArgumentException" 7 ⟨"java/lang/RuntimeException", "<init>", "(Ljava/lang/String;)V"⟩) ∈ mBig := mBig_in 231 (by decide +kernel) rfl
theorem k_218 : (Cond.classLink "EdgeWear" 60 "java/lang/IllegalStateException") ∈ mBig := mBig_in 234 (by decide +kernel) rfl
theorem k_219 : (Cond.instantiable "java/lang/IllegalStateException" 6) ∈ mBig := mBig_in 235 (by decide +kernel) rfl
theorem k_221 : (Cond.selects "java/lang/IllegalStateException" ⟨"java/lang/Throwable", "fillInStackTrace", "(I)Ljava/lang/Throwable;"⟩ ⟨"java/lang/Throwable", "fillInStackTrace", "(I)Ljava/lang/Throwable;"⟩) ∈ mBig := mBig_in 237 (by decide +kernel) rfl
theorem k_228 : (Cond.methodLink "EdgeWear" 64 ⟨"java/lang/IllegalStateException", "<init>", "(Ljava/lang/String;)V"⟩) ∈ mBig := mBig_in 244 (by decide +kernel) rfl
theorem k_229 : (Cond.instanceMethod ⟨"java/lang/IllegalStateException", "<init>", "(Ljava/lang/String;)V"⟩) ∈ mBig := mBig_in 245 (by decide +kernel) rfl
set_option maxRecDepth 100000 in
theorem k_230 : (Cond.code ⟨"java/lang/IllegalStateException", "<init>", "(Ljava/lang/String;)V"⟩ prog_11_method_2_code 2 none) ∈ mBig := mBig_in 246 (rfl) rfl
theorem k_231 : (Cond.methodLink "java/lang/IllegalStateException" 7 ⟨"java/lang/RuntimeException", "<init>", "(Ljava/lang/String;)V"⟩) ∈ mBig := mBig_in 247 (by decide +kernel) rfl
theorem k_234 : (Cond.instantiable "EdgeWear$Tool" 9) ∈ mBig := mBig_in 250 (by decide +kernel) rfl
theorem k_235 : (Cond.methodLink "EdgeWear" 65 ⟨"EdgeWear$Tool", "<init>", "(LEdgeWear$Sort;II)V"⟩) ∈ mBig := mBig_in 251 (by decide +kernel) rfl
theorem k_236 : (Cond.instanceMethod ⟨"EdgeWear$Tool", "<init>", "(LEdgeWear$Sort;II)V"⟩) ∈ mBig := mBig_in 252 (by decide +kernel) rfl
set_option maxRecDepth 100000 in
theorem k_237 : (Cond.code ⟨"EdgeWear$Tool", "<init>", "(LEdgeWear$Sort;II)V"⟩ prog_6_method_1_code 4 none) ∈ mBig := mBig_in 253 (rfl) rfl
theorem k_238 : (Cond.methodLink "EdgeWear$Tool" 3 ⟨"java/lang/Object", "<init>", "()V"⟩) ∈ mBig := mBig_in 254 (by decide +kernel) rfl
theorem k_239 : (Cond.classLink "EdgeWear$Tool" 22 "EdgeWear$Readings") ∈ mBig := mBig_in 255 (by decide +kernel) rfl
theorem k_240 : (Cond.instantiable "EdgeWear$Readings" 3) ∈ mBig := mBig_in 256 (by decide +kernel) rfl
theorem k_241 : (Cond.methodLink "EdgeWear$Tool" 24 ⟨"EdgeWear$Readings", "<init>", "()V"⟩) ∈ mBig := mBig_in 257 (by decide +kernel) rfl
theorem k_242 : (Cond.instanceMethod ⟨"EdgeWear$Readings", "<init>", "()V"⟩) ∈ mBig := mBig_in 258 (by decide +kernel) rfl
set_option maxRecDepth 100000 in
theorem k_243 : (Cond.code ⟨"EdgeWear$Readings", "<init>", "()V"⟩ prog_3_method_1_code 1 none) ∈ mBig := mBig_in 259 (rfl) rfl
theorem k_244 : (Cond.methodLink "EdgeWear$Readings" 3 ⟨"java/lang/Object", "<init>", "()V"⟩) ∈ mBig := mBig_in 260 (by decide +kernel) rfl
theorem k_245 : (Cond.fieldLink "EdgeWear$Readings" 9 "EdgeWear$Readings" "latestFirst" "[I") ∈ mBig := mBig_in 261 (by decide +kernel) rfl
theorem k_246 : (Cond.fieldLink "EdgeWear$Readings" 25 "EdgeWear$Readings" "count" "I") ∈ mBig := mBig_in 262 (by decide +kernel) rfl
theorem k_247 : (Cond.fieldLink "EdgeWear$Readings" 15 "EdgeWear$Readings" "lastMinute" "I") ∈ mBig := mBig_in 263 (by decide +kernel) rfl
theorem k_248 : (Cond.fieldLink "EdgeWear" 213 "EdgeWear$Readings" "lastMinute" "I") ∈ mBig := mBig_in 264 (by decide +kernel) rfl
theorem k_256 : (Cond.fieldLink "EdgeWear$Tool" 9 "EdgeWear$Tool" "sort" "LEdgeWear$Sort;") ∈ mBig := mBig_in 272 (by decide +kernel) rfl
theorem k_257 : (Cond.fieldLink "EdgeWear" 114 "EdgeWear$Tool" "sort" "LEdgeWear$Sort;") ∈ mBig := mBig_in 273 (by decide +kernel) rfl
theorem k_258 : (Cond.fieldLink "EdgeWear$Tool" 19 "EdgeWear$Tool" "least" "I") ∈ mBig := mBig_in 274 (by decide +kernel) rfl
theorem k_259 : (Cond.fieldLink "EdgeWear$Tool" 25 "EdgeWear$Tool" "readings" "LEdgeWear$Readings;") ∈ mBig := mBig_in 275 (by decide +kernel) rfl
theorem k_260 : (Cond.fieldLink "EdgeWear" 207 "EdgeWear$Tool" "readings" "LEdgeWear$Readings;") ∈ mBig := mBig_in 276 (by decide +kernel) rfl
theorem k_261 : (Cond.fieldLink "EdgeWear$Tool" 15 "EdgeWear$Tool" "length" "I") ∈ mBig := mBig_in 277 (by decide +kernel) rfl
theorem k_262 : (Cond.fieldLink "EdgeWear" 111 "EdgeWear$Tool" "length" "I") ∈ mBig := mBig_in 278 (by decide +kernel) rfl
theorem k_263 : (Cond.fieldLink "EdgeWear$Tool" 29 "EdgeWear$Tool" "wear" "J") ∈ mBig := mBig_in 279 (by decide +kernel) rfl
theorem k_264 : (Cond.fieldLink "EdgeWear" 108 "EdgeWear$Tool" "wear" "J") ∈ mBig := mBig_in 280 (by decide +kernel) rfl
theorem k_265 : (Cond.fieldLink "EdgeWear$Tool" 41 "EdgeWear$Tool" "uses" "J") ∈ mBig := mBig_in 281 (by decide +kernel) rfl
theorem k_266 : (Cond.fieldLink "EdgeWear" 125 "EdgeWear$Tool" "uses" "J") ∈ mBig := mBig_in 282 (by decide +kernel) rfl
theorem k_267 : (Cond.fieldLink "EdgeWear$Tool" 48 "EdgeWear$Tool" "grindings" "J") ∈ mBig := mBig_in 283 (by decide +kernel) rfl
theorem k_268 : (Cond.fieldLink "EdgeWear" 128 "EdgeWear$Tool" "grindings" "J") ∈ mBig := mBig_in 284 (by decide +kernel) rfl
theorem k_269 : (Cond.fieldLink "EdgeWear$Tool" 44 "EdgeWear$Tool" "barred" "Z") ∈ mBig := mBig_in 285 (by decide +kernel) rfl
theorem k_270 : (Cond.fieldLink "EdgeWear" 88 "EdgeWear$Tool" "barred" "Z") ∈ mBig := mBig_in 286 (by decide +kernel) rfl
theorem k_271 : (Cond.fieldLink "EdgeWear$Tool" 59 "EdgeWear$Tool" "out" "Z") ∈ mBig := mBig_in 287 (by decide +kernel) rfl
theorem k_272 : (Cond.fieldLink "EdgeWear" 143 "EdgeWear$Tool" "out" "Z") ∈ mBig := mBig_in 288 (by decide +kernel) rfl
theorem k_292 : (Cond.methodLink "EdgeWearLaw" 104 ⟨"EdgeWearLaw", "rate", "(LEdgeWear;III)I"⟩) ∈ mBig := mBig_in 308 (by decide +kernel) rfl
theorem k_293 : (Cond.static ⟨"EdgeWearLaw", "rate", "(LEdgeWear;III)I"⟩) ∈ mBig := mBig_in 309 (by decide +kernel) rfl
set_option maxRecDepth 100000 in
theorem k_294 : (Cond.codeWith ⟨"EdgeWearLaw", "rate", "(LEdgeWear;III)I"⟩ method_4_code 5 (some FieldType.int) [(0, 7, 10, 13), (0, 7, 14, 15)]) ∈ mBig := mBig_in 310 (rfl) rfl
theorem k_295 : (Cond.methodLink "EdgeWearLaw" 19 ⟨"EdgeWear", "rate", "(III)V"⟩) ∈ mBig := mBig_in 311 (by decide +kernel) rfl
theorem k_296 : (Cond.instanceMethod ⟨"EdgeWear", "rate", "(III)V"⟩) ∈ mBig := mBig_in 312 (by decide +kernel) rfl
theorem k_297 : (Cond.selects "EdgeWear" ⟨"EdgeWear", "rate", "(III)V"⟩ ⟨"EdgeWear", "rate", "(III)V"⟩) ∈ mBig := mBig_in 313 (by decide +kernel) rfl
set_option maxRecDepth 100000 in
theorem k_298 : (Cond.code ⟨"EdgeWear", "rate", "(III)V"⟩ prog_1_method_3_code 5 none) ∈ mBig := mBig_in 314 (rfl) rfl
theorem k_299 : (Cond.methodLink "EdgeWear" 68 ⟨"EdgeWear", "rateIndex", "(II)I"⟩) ∈ mBig := mBig_in 315 (by decide +kernel) rfl
theorem k_300 : (Cond.static ⟨"EdgeWear", "rateIndex", "(II)I"⟩) ∈ mBig := mBig_in 316 (by decide +kernel) rfl
set_option maxRecDepth 100000 in
theorem k_301 : (Cond.code ⟨"EdgeWear", "rateIndex", "(II)I"⟩ prog_1_method_24_code 2 (some FieldType.int)) ∈ mBig := mBig_in 317 (rfl) rfl
theorem k_304 : (Cond.methodLink "EdgeWearLaw" 110 ⟨"EdgeWearLaw", "limit", "(LEdgeWear;IJ)I"⟩) ∈ mBig := mBig_in 320 (by decide +kernel) rfl
theorem k_305 : (Cond.static ⟨"EdgeWearLaw", "limit", "(LEdgeWear;IJ)I"⟩) ∈ mBig := mBig_in 321 (by decide +kernel) rfl
set_option maxRecDepth 100000 in
theorem k_306 : (Cond.codeWith ⟨"EdgeWearLaw", "limit", "(LEdgeWear;IJ)I"⟩ method_5_code 5 (some FieldType.int) [(0, 6, 9, 13), (0, 6, 13, 15)]) ∈ mBig := mBig_in 322 (rfl) rfl
theorem k_307 : (Cond.methodLink "EdgeWearLaw" 23 ⟨"EdgeWear", "limit", "(IJ)V"⟩) ∈ mBig := mBig_in 323 (by decide +kernel) rfl
theorem k_308 : (Cond.instanceMethod ⟨"EdgeWear", "limit", "(IJ)V"⟩) ∈ mBig := mBig_in 324 (by decide +kernel) rfl
theorem k_309 : (Cond.selects "EdgeWear" ⟨"EdgeWear", "limit", "(IJ)V"⟩ ⟨"EdgeWear", "limit", "(IJ)V"⟩) ∈ mBig := mBig_in 325 (by decide +kernel) rfl
set_option maxRecDepth 100000 in
theorem k_310 : (Cond.code ⟨"EdgeWear", "limit", "(IJ)V"⟩ prog_1_method_4_code 5 none) ∈ mBig := mBig_in 326 (rfl) rfl
theorem k_311 : (Cond.constantLong "EdgeWear" 74 (1000000000000 : Int64)) ∈ mBig := mBig_in 327 (by decide +kernel) rfl
theorem k_313 : (Cond.methodLink "EdgeWearLaw" 114 ⟨"EdgeWearLaw", "use", "(LEdgeWear;IIII[J)I"⟩) ∈ mBig := mBig_in 329 (by decide +kernel) rfl
theorem k_314 : (Cond.static ⟨"EdgeWearLaw", "use", "(LEdgeWear;IIII[J)I"⟩) ∈ mBig := mBig_in 330 (by decide +kernel) rfl
set_option maxRecDepth 100000 in
theorem k_315 : (Cond.codeWith ⟨"EdgeWearLaw", "use", "(LEdgeWear;IIII[J)I"⟩ method_6_code 7 (some FieldType.int) [(0, 21, 24, 13), (0, 21, 28, 15), (0, 21, 32, 17)]) ∈ mBig := mBig_in 331 (rfl) rfl
theorem k_316 : (Cond.methodLink "EdgeWearLaw" 27 ⟨"EdgeWear", "use", "(IIII)Z"⟩) ∈ mBig := mBig_in 332 (by decide +kernel) rfl
theorem k_317 : (Cond.instanceMethod ⟨"EdgeWear", "use", "(IIII)Z"⟩) ∈ mBig := mBig_in 333 (by decide +kernel) rfl
theorem k_318 : (Cond.selects "EdgeWear" ⟨"EdgeWear", "use", "(IIII)Z"⟩ ⟨"EdgeWear", "use", "(IIII)Z"⟩) ∈ mBig := mBig_in 334 (by decide +kernel) rfl
set_option maxRecDepth 100000 in
theorem k_319 : (Cond.code ⟨"EdgeWear", "use", "(IIII)Z"⟩ prog_1_method_5_code 7 (some FieldType.boolean)) ∈ mBig := mBig_in 335 (rfl) rfl
theorem k_320 : (Cond.methodLink "EdgeWear" 82 ⟨"EdgeWear", "toolAt", "(I)LEdgeWear$Tool;"⟩) ∈ mBig := mBig_in 336 (by decide +kernel) rfl
theorem k_322 : (Cond.instanceMethod ⟨"EdgeWear", "toolAt", "(I)LEdgeWear$Tool;"⟩) ∈ mBig := mBig_in 338 (by decide +kernel) rfl
set_option maxRecDepth 100000 in
theorem k_323 : (Cond.code ⟨"EdgeWear", "toolAt", "(I)LEdgeWear$Tool;"⟩ prog_1_method_22_code 3 (some (FieldType.object "EdgeWear$Tool"))) ∈ mBig := mBig_in 339 (rfl) rfl
theorem k_327 : (Cond.methodLink "EdgeWear" 94 ⟨"EdgeWear$Tool", "wearBy", "(J)V"⟩) ∈ mBig := mBig_in 343 (by decide +kernel) rfl
theorem k_328 : (Cond.instanceMethod ⟨"EdgeWear$Tool", "wearBy", "(J)V"⟩) ∈ mBig := mBig_in 344 (by decide +kernel) rfl
theorem k_329 : (Cond.selects "EdgeWear$Tool" ⟨"EdgeWear$Tool", "wearBy", "(J)V"⟩ ⟨"EdgeWear$Tool", "wearBy", "(J)V"⟩) ∈ mBig := mBig_in 345 (by decide +kernel) rfl
set_option maxRecDepth 100000 in
theorem k_330 : (Cond.code ⟨"EdgeWear$Tool", "wearBy", "(J)V"⟩ prog_6_method_2_code 3 none) ∈ mBig := mBig_in 346 (rfl) rfl
theorem k_331 : (Cond.constantLong "EdgeWear$Tool" 33 (1000000000000000 : Int64)) ∈ mBig := mBig_in 347 (by decide +kernel) rfl
theorem k_332 : (Cond.methodLink "EdgeWear$Tool" 35 ⟨"java/lang/Math", "min", "(JJ)J"⟩) ∈ mBig := mBig_in 348 (by decide +kernel) rfl
theorem k_333 : (Cond.static ⟨"java/lang/Math", "min", "(JJ)J"⟩) ∈ mBig := mBig_in 349 (by decide +kernel) rfl
set_option maxRecDepth 100000 in
theorem k_334 : (Cond.code ⟨"java/lang/Math", "min", "(JJ)J"⟩ prog_13_method_70_code 4 (some FieldType.long)) ∈ mBig := mBig_in 350 (rfl) rfl
theorem k_335 : (Cond.methodLink "EdgeWear" 98 ⟨"EdgeWear$Tool", "isBlunt", "()Z"⟩) ∈ mBig := mBig_in 351 (by decide +kernel) rfl
theorem k_336 : (Cond.instanceMethod ⟨"EdgeWear$Tool", "isBlunt", "()Z"⟩) ∈ mBig := mBig_in 352 (by decide +kernel) rfl
theorem k_337 : (Cond.selects "EdgeWear$Tool" ⟨"EdgeWear$Tool", "isBlunt", "()Z"⟩ ⟨"EdgeWear$Tool", "isBlunt", "()Z"⟩) ∈ mBig := mBig_in 353 (by decide +kernel) rfl
set_option maxRecDepth 100000 in
theorem k_338 : (Cond.code ⟨"EdgeWear$Tool", "isBlunt", "()Z"⟩ prog_6_method_4_code 1 (some FieldType.boolean)) ∈ mBig := mBig_in 354 (rfl) rfl
theorem k_339 : (Cond.methodLink "EdgeWearLaw" 118 ⟨"EdgeWearLaw", "grind", "(LEdgeWear;II[J)I"⟩) ∈ mBig := mBig_in 355 (by decide +kernel) rfl
theorem k_340 : (Cond.static ⟨"EdgeWearLaw", "grind", "(LEdgeWear;II[J)I"⟩) ∈ mBig := mBig_in 356 (by decide +kernel) rfl
set_option maxRecDepth 100000 in
theorem k_341 : (Cond.codeWith ⟨"EdgeWearLaw", "grind", "(LEdgeWear;II[J)I"⟩ method_7_code 5 (some FieldType.int) [(0, 17, 20, 13), (0, 17, 24, 15), (0, 17, 28, 17)]) ∈ mBig := mBig_in 357 (rfl) rfl
theorem k_342 : (Cond.methodLink "EdgeWearLaw" 31 ⟨"EdgeWear", "grind", "(II)Z"⟩) ∈ mBig := mBig_in 358 (by decide +kernel) rfl
theorem k_343 : (Cond.instanceMethod ⟨"EdgeWear", "grind", "(II)Z"⟩) ∈ mBig := mBig_in 359 (by decide +kernel) rfl
theorem k_344 : (Cond.selects "EdgeWear" ⟨"EdgeWear", "grind", "(II)Z"⟩ ⟨"EdgeWear", "grind", "(II)Z"⟩) ∈ mBig := mBig_in 360 (by decide +kernel) rfl
set_option maxRecDepth 100000 in
theorem k_345 : (Cond.code ⟨"EdgeWear", "grind", "(II)Z"⟩ prog_1_method_6_code 4 (some FieldType.boolean)) ∈ mBig := mBig_in 361 (rfl) rfl
theorem k_347 : (Cond.methodLink "EdgeWear" 104 ⟨"EdgeWear$Tool", "grindOrBar", "(I)Z"⟩) ∈ mBig := mBig_in 363 (by decide +kernel) rfl
theorem k_348 : (Cond.instanceMethod ⟨"EdgeWear$Tool", "grindOrBar", "(I)Z"⟩) ∈ mBig := mBig_in 364 (by decide +kernel) rfl
theorem k_349 : (Cond.selects "EdgeWear$Tool" ⟨"EdgeWear$Tool", "grindOrBar", "(I)Z"⟩ ⟨"EdgeWear$Tool", "grindOrBar", "(I)Z"⟩) ∈ mBig := mBig_in 365 (by decide +kernel) rfl
set_option maxRecDepth 100000 in
theorem k_350 : (Cond.code ⟨"EdgeWear$Tool", "grindOrBar", "(I)Z"⟩ prog_6_method_3_code 2 (some FieldType.boolean)) ∈ mBig := mBig_in 366 (rfl) rfl
theorem k_351 : (Cond.methodLink "EdgeWearLaw" 122 ⟨"EdgeWearLaw", "about", "(LEdgeWear;II[J)I"⟩) ∈ mBig := mBig_in 367 (by decide +kernel) rfl
theorem k_352 : (Cond.static ⟨"EdgeWearLaw", "about", "(LEdgeWear;II[J)I"⟩) ∈ mBig := mBig_in 368 (by decide +kernel) rfl
set_option maxRecDepth 100000 in
theorem k_353 : (Cond.codeWith ⟨"EdgeWearLaw", "about", "(LEdgeWear;II[J)I"⟩ method_8_code 5 (some FieldType.int) [(0, 9, 12, 13)]) ∈ mBig := mBig_in 369 (rfl) rfl
theorem k_354 : (Cond.methodLink "EdgeWearLaw" 35 ⟨"EdgeWear", "about", "(II)J"⟩) ∈ mBig := mBig_in 370 (by decide +kernel) rfl
theorem k_355 : (Cond.instanceMethod ⟨"EdgeWear", "about", "(II)J"⟩) ∈ mBig := mBig_in 371 (by decide +kernel) rfl
theorem k_356 : (Cond.selects "EdgeWear" ⟨"EdgeWear", "about", "(II)J"⟩ ⟨"EdgeWear", "about", "(II)J"⟩) ∈ mBig := mBig_in 372 (by decide +kernel) rfl
set_option maxRecDepth 100000 in
theorem k_357 : (Cond.code ⟨"EdgeWear", "about", "(II)J"⟩ prog_1_method_7_code 4 (some FieldType.long)) ∈ mBig := mBig_in 373 (rfl) rfl
theorem k_358 : (Cond.methodLink "EdgeWear" 121 ⟨"EdgeWear$Tool", "marks", "()I"⟩) ∈ mBig := mBig_in 374 (by decide +kernel) rfl
theorem k_359 : (Cond.instanceMethod ⟨"EdgeWear$Tool", "marks", "()I"⟩) ∈ mBig := mBig_in 375 (by decide +kernel) rfl
theorem k_360 : (Cond.selects "EdgeWear$Tool" ⟨"EdgeWear$Tool", "marks", "()I"⟩ ⟨"EdgeWear$Tool", "marks", "()I"⟩) ∈ mBig := mBig_in 376 (by decide +kernel) rfl
set_option maxRecDepth 100000 in
theorem k_361 : (Cond.code ⟨"EdgeWear$Tool", "marks", "()I"⟩ prog_6_method_6_code 1 (some FieldType.int)) ∈ mBig := mBig_in 377 (rfl) rfl
theorem k_362 : (Cond.methodLink "EdgeWear$Tool" 62 ⟨"EdgeWear$Tool", "isBlunt", "()Z"⟩) ∈ mBig := mBig_in 378 (by decide +kernel) rfl
theorem k_364 : (Cond.methodLink "EdgeWearLaw" 125 ⟨"EdgeWearLaw", "spare", "(LEdgeWear;I[J)I"⟩) ∈ mBig := mBig_in 380 (by decide +kernel) rfl
theorem k_365 : (Cond.static ⟨"EdgeWearLaw", "spare", "(LEdgeWear;I[J)I"⟩) ∈ mBig := mBig_in 381 (by decide +kernel) rfl
set_option maxRecDepth 100000 in
theorem k_366 : (Cond.codeWith ⟨"EdgeWearLaw", "spare", "(LEdgeWear;I[J)I"⟩ method_9_code 4 (some FieldType.int) [(0, 9, 12, 13)]) ∈ mBig := mBig_in 382 (rfl) rfl
theorem k_367 : (Cond.methodLink "EdgeWearLaw" 39 ⟨"EdgeWear", "spare", "(I)I"⟩) ∈ mBig := mBig_in 383 (by decide +kernel) rfl
theorem k_368 : (Cond.instanceMethod ⟨"EdgeWear", "spare", "(I)I"⟩) ∈ mBig := mBig_in 384 (by decide +kernel) rfl
theorem k_369 : (Cond.selects "EdgeWear" ⟨"EdgeWear", "spare", "(I)I"⟩ ⟨"EdgeWear", "spare", "(I)I"⟩) ∈ mBig := mBig_in 385 (by decide +kernel) rfl
set_option maxRecDepth 100000 in
theorem k_370 : (Cond.code ⟨"EdgeWear", "spare", "(I)I"⟩ prog_1_method_8_code 6 (some FieldType.int)) ∈ mBig := mBig_in 386 (rfl) rfl
theorem k_371 : (Cond.methodLink "EdgeWear" 136 ⟨"EdgeWear$Tool", "isSpareOf", "(I)Z"⟩) ∈ mBig := mBig_in 387 (by decide +kernel) rfl
theorem k_372 : (Cond.instanceMethod ⟨"EdgeWear$Tool", "isSpareOf", "(I)Z"⟩) ∈ mBig := mBig_in 388 (by decide +kernel) rfl
theorem k_373 : (Cond.selects "EdgeWear$Tool" ⟨"EdgeWear$Tool", "isSpareOf", "(I)Z"⟩ ⟨"EdgeWear$Tool", "isSpareOf", "(I)Z"⟩) ∈ mBig := mBig_in 389 (by decide +kernel) rfl
set_option maxRecDepth 100000 in
theorem k_374 : (Cond.code ⟨"EdgeWear$Tool", "isSpareOf", "(I)Z"⟩ prog_6_method_5_code 2 (some FieldType.boolean)) ∈ mBig := mBig_in 390 (rfl) rfl
theorem k_375 : (Cond.methodLink "EdgeWearLaw" 129 ⟨"EdgeWearLaw", "take", "(LEdgeWear;I[J)I"⟩) ∈ mBig := mBig_in 391 (by decide +kernel) rfl
theorem k_376 : (Cond.static ⟨"EdgeWearLaw", "take", "(LEdgeWear;I[J)I"⟩) ∈ mBig := mBig_in 392 (by decide +kernel) rfl
set_option maxRecDepth 100000 in
theorem k_377 : (Cond.codeWith ⟨"EdgeWearLaw", "take", "(LEdgeWear;I[J)I"⟩ method_10_code 4 (some FieldType.int) [(0, 9, 12, 13)]) ∈ mBig := mBig_in 393 (rfl) rfl
theorem k_378 : (Cond.methodLink "EdgeWearLaw" 43 ⟨"EdgeWear", "take", "(I)I"⟩) ∈ mBig := mBig_in 394 (by decide +kernel) rfl
theorem k_379 : (Cond.instanceMethod ⟨"EdgeWear", "take", "(I)I"⟩) ∈ mBig := mBig_in 395 (by decide +kernel) rfl
theorem k_380 : (Cond.selects "EdgeWear" ⟨"EdgeWear", "take", "(I)I"⟩ ⟨"EdgeWear", "take", "(I)I"⟩) ∈ mBig := mBig_in 396 (by decide +kernel) rfl
set_option maxRecDepth 100000 in
theorem k_381 : (Cond.code ⟨"EdgeWear", "take", "(I)I"⟩ prog_1_method_9_code 3 (some FieldType.int)) ∈ mBig := mBig_in 397 (rfl) rfl
theorem k_382 : (Cond.methodLink "EdgeWear" 139 ⟨"EdgeWear", "nextSpare", "(I)I"⟩) ∈ mBig := mBig_in 398 (by decide +kernel) rfl
theorem k_384 : (Cond.instanceMethod ⟨"EdgeWear", "nextSpare", "(I)I"⟩) ∈ mBig := mBig_in 400 (by decide +kernel) rfl
set_option maxRecDepth 100000 in
theorem k_385 : (Cond.code ⟨"EdgeWear", "nextSpare", "(I)I"⟩ prog_1_method_25_code 6 (some FieldType.int)) ∈ mBig := mBig_in 401 (rfl) rfl
theorem k_386 : (Cond.constant "EdgeWear" 263 (1000001 : Int32)) ∈ mBig := mBig_in 402 (by decide +kernel) rfl
theorem k_387 : (Cond.methodLink "EdgeWearLaw" 132 ⟨"EdgeWearLaw", "bring", "(LEdgeWear;I[J)I"⟩) ∈ mBig := mBig_in 403 (by decide +kernel) rfl
theorem k_388 : (Cond.static ⟨"EdgeWearLaw", "bring", "(LEdgeWear;I[J)I"⟩) ∈ mBig := mBig_in 404 (by decide +kernel) rfl
set_option maxRecDepth 100000 in
theorem k_389 : (Cond.codeWith ⟨"EdgeWearLaw", "bring", "(LEdgeWear;I[J)I"⟩ method_11_code 4 (some FieldType.int) [(0, 16, 19, 13)]) ∈ mBig := mBig_in 405 (rfl) rfl
theorem k_390 : (Cond.methodLink "EdgeWearLaw" 46 ⟨"EdgeWear", "bring", "(I)Z"⟩) ∈ mBig := mBig_in 406 (by decide +kernel) rfl
theorem k_391 : (Cond.instanceMethod ⟨"EdgeWear", "bring", "(I)Z"⟩) ∈ mBig := mBig_in 407 (by decide +kernel) rfl
theorem k_392 : (Cond.selects "EdgeWear" ⟨"EdgeWear", "bring", "(I)Z"⟩ ⟨"EdgeWear", "bring", "(I)Z"⟩) ∈ mBig := mBig_in 408 (by decide +kernel) rfl
set_option maxRecDepth 100000 in
theorem k_393 : (Cond.code ⟨"EdgeWear", "bring", "(I)Z"⟩ prog_1_method_10_code 4 (some FieldType.boolean)) ∈ mBig := mBig_in 409 (rfl) rfl
theorem k_394 : (Cond.methodLink "EdgeWearLaw" 135 ⟨"EdgeWearLaw", "life", "(LEdgeWear;II[J)I"⟩) ∈ mBig := mBig_in 410 (by decide +kernel) rfl
theorem k_395 : (Cond.static ⟨"EdgeWearLaw", "life", "(LEdgeWear;II[J)I"⟩) ∈ mBig := mBig_in 411 (by decide +kernel) rfl
set_option maxRecDepth 100000 in
theorem k_396 : (Cond.codeWith ⟨"EdgeWearLaw", "life", "(LEdgeWear;II[J)I"⟩ method_12_code 5 (some FieldType.int) [(0, 10, 13, 13), (0, 10, 17, 15), (0, 10, 21, 17)]) ∈ mBig := mBig_in 412 (rfl) rfl
theorem k_397 : (Cond.methodLink "EdgeWearLaw" 50 ⟨"EdgeWear", "life", "(II)I"⟩) ∈ mBig := mBig_in 413 (by decide +kernel) rfl
theorem k_398 : (Cond.instanceMethod ⟨"EdgeWear", "life", "(II)I"⟩) ∈ mBig := mBig_in 414 (by decide +kernel) rfl
theorem k_399 : (Cond.selects "EdgeWear" ⟨"EdgeWear", "life", "(II)I"⟩ ⟨"EdgeWear", "life", "(II)I"⟩) ∈ mBig := mBig_in 415 (by decide +kernel) rfl
set_option maxRecDepth 100000 in
theorem k_400 : (Cond.code ⟨"EdgeWear", "life", "(II)I"⟩ prog_1_method_11_code 4 (some FieldType.int)) ∈ mBig := mBig_in 416 (rfl) rfl
theorem k_403 : (Cond.methodLink "EdgeWearLaw" 138 ⟨"EdgeWearLaw", "cost", "(LEdgeWear;III)I"⟩) ∈ mBig := mBig_in 419 (by decide +kernel) rfl
theorem k_404 : (Cond.static ⟨"EdgeWearLaw", "cost", "(LEdgeWear;III)I"⟩) ∈ mBig := mBig_in 420 (by decide +kernel) rfl
set_option maxRecDepth 100000 in
theorem k_405 : (Cond.codeWith ⟨"EdgeWearLaw", "cost", "(LEdgeWear;III)I"⟩ method_13_code 5 (some FieldType.int) [(0, 7, 10, 13), (0, 7, 14, 15)]) ∈ mBig := mBig_in 421 (rfl) rfl
theorem k_406 : (Cond.methodLink "EdgeWearLaw" 54 ⟨"EdgeWear", "cost", "(III)V"⟩) ∈ mBig := mBig_in 422 (by decide +kernel) rfl
theorem k_407 : (Cond.instanceMethod ⟨"EdgeWear", "cost", "(III)V"⟩) ∈ mBig := mBig_in 423 (by decide +kernel) rfl
theorem k_408 : (Cond.selects "EdgeWear" ⟨"EdgeWear", "cost", "(III)V"⟩ ⟨"EdgeWear", "cost", "(III)V"⟩) ∈ mBig := mBig_in 424 (by decide +kernel) rfl
set_option maxRecDepth 100000 in
theorem k_409 : (Cond.code ⟨"EdgeWear", "cost", "(III)V"⟩ prog_1_method_12_code 5 none) ∈ mBig := mBig_in 425 (rfl) rfl
theorem k_411 : (Cond.methodLink "EdgeWearLaw" 141 ⟨"EdgeWearLaw", "change", "(LEdgeWear;I[J)I"⟩) ∈ mBig := mBig_in 427 (by decide +kernel) rfl
theorem k_412 : (Cond.static ⟨"EdgeWearLaw", "change", "(LEdgeWear;I[J)I"⟩) ∈ mBig := mBig_in 428 (by decide +kernel) rfl
set_option maxRecDepth 100000 in
theorem k_413 : (Cond.codeWith ⟨"EdgeWearLaw", "change", "(LEdgeWear;I[J)I"⟩ method_14_code 4 (some FieldType.int) [(0, 9, 12, 13), (0, 9, 15, 17)]) ∈ mBig := mBig_in 429 (rfl) rfl
theorem k_414 : (Cond.methodLink "EdgeWearLaw" 57 ⟨"EdgeWear", "change", "(I)I"⟩) ∈ mBig := mBig_in 430 (by decide +kernel) rfl
theorem k_415 : (Cond.instanceMethod ⟨"EdgeWear", "change", "(I)I"⟩) ∈ mBig := mBig_in 431 (by decide +kernel) rfl
theorem k_416 : (Cond.selects "EdgeWear" ⟨"EdgeWear", "change", "(I)I"⟩ ⟨"EdgeWear", "change", "(I)I"⟩) ∈ mBig := mBig_in 432 (by decide +kernel) rfl
set_option maxRecDepth 100000 in
theorem k_417 : (Cond.code ⟨"EdgeWear", "change", "(I)I"⟩ prog_1_method_13_code 3 (some FieldType.int)) ∈ mBig := mBig_in 433 (rfl) rfl
theorem k_419 : (Cond.methodLink "EdgeWear" 166 ⟨"EdgeWear$Sort", "bestUses", "()I"⟩) ∈ mBig := mBig_in 435 (by decide +kernel) rfl
theorem k_420 : (Cond.instanceMethod ⟨"EdgeWear$Sort", "bestUses", "()I"⟩) ∈ mBig := mBig_in 436 (by decide +kernel) rfl
theorem k_421 : (Cond.selects "EdgeWear$Sort" ⟨"EdgeWear$Sort", "bestUses", "()I"⟩ ⟨"EdgeWear$Sort", "bestUses", "()I"⟩) ∈ mBig := mBig_in 437 (by decide +kernel) rfl
set_option maxRecDepth 100000 in
theorem k_422 : (Cond.code ⟨"EdgeWear$Sort", "bestUses", "()I"⟩ prog_5_method_5_code 3 (some FieldType.int)) ∈ mBig := mBig_in 438 (rfl) rfl
theorem k_423 : (Cond.methodLink "EdgeWear$Sort" 43 ⟨"EdgeWear$Sort", "isBetter", "(II)Z"⟩) ∈ mBig := mBig_in 439 (by decide +kernel) rfl
theorem k_424 : (Cond.instanceMethod ⟨"EdgeWear$Sort", "isBetter", "(II)Z"⟩) ∈ mBig := mBig_in 440 (by decide +kernel) rfl
theorem k_425 : (Cond.selects "EdgeWear$Sort" ⟨"EdgeWear$Sort", "isBetter", "(II)Z"⟩ ⟨"EdgeWear$Sort", "isBetter", "(II)Z"⟩) ∈ mBig := mBig_in 441 (by decide +kernel) rfl
set_option maxRecDepth 100000 in
theorem k_426 : (Cond.code ⟨"EdgeWear$Sort", "isBetter", "(II)Z"⟩ prog_5_method_6_code 7 (some FieldType.boolean)) ∈ mBig := mBig_in 442 (rfl) rfl
theorem k_427 : (Cond.methodLink "EdgeWear$Sort" 47 ⟨"EdgeWear$Sort", "costAt", "(I)J"⟩) ∈ mBig := mBig_in 443 (by decide +kernel) rfl
theorem k_428 : (Cond.instanceMethod ⟨"EdgeWear$Sort", "costAt", "(I)J"⟩) ∈ mBig := mBig_in 444 (by decide +kernel) rfl
theorem k_429 : (Cond.selects "EdgeWear$Sort" ⟨"EdgeWear$Sort", "costAt", "(I)J"⟩ ⟨"EdgeWear$Sort", "costAt", "(I)J"⟩) ∈ mBig := mBig_in 445 (by decide +kernel) rfl
set_option maxRecDepth 100000 in
theorem k_430 : (Cond.code ⟨"EdgeWear$Sort", "costAt", "(I)J"⟩ prog_5_method_3_code 5 (some FieldType.long)) ∈ mBig := mBig_in 446 (rfl) rfl
theorem k_431 : (Cond.methodLink "EdgeWear$Sort" 51 ⟨"EdgeWear$Sort", "usesAt", "(I)J"⟩) ∈ mBig := mBig_in 447 (by decide +kernel) rfl
theorem k_432 : (Cond.instanceMethod ⟨"EdgeWear$Sort", "usesAt", "(I)J"⟩) ∈ mBig := mBig_in 448 (by decide +kernel) rfl
theorem k_433 : (Cond.selects "EdgeWear$Sort" ⟨"EdgeWear$Sort", "usesAt", "(I)J"⟩ ⟨"EdgeWear$Sort", "usesAt", "(I)J"⟩) ∈ mBig := mBig_in 449 (by decide +kernel) rfl
set_option maxRecDepth 100000 in
theorem k_434 : (Cond.code ⟨"EdgeWear$Sort", "usesAt", "(I)J"⟩ prog_5_method_4_code 5 (some FieldType.long)) ∈ mBig := mBig_in 450 (rfl) rfl
theorem k_435 : (Cond.methodLink "EdgeWear$Sort" 40 ⟨"java/lang/Math", "min", "(II)I"⟩) ∈ mBig := mBig_in 451 (by decide +kernel) rfl
theorem k_436 : (Cond.static ⟨"java/lang/Math", "min", "(II)I"⟩) ∈ mBig := mBig_in 452 (by decide +kernel) rfl
set_option maxRecDepth 100000 in
theorem k_437 : (Cond.code ⟨"java/lang/Math", "min", "(II)I"⟩ prog_13_method_69_code 2 (some FieldType.int)) ∈ mBig := mBig_in 453 (rfl) rfl
theorem k_438 : (Cond.methodLink "EdgeWearLaw" 144 ⟨"EdgeWearLaw", "changed", "(LEdgeWear;III[J)I"⟩) ∈ mBig := mBig_in 454 (by decide +kernel) rfl
theorem k_439 : (Cond.static ⟨"EdgeWearLaw", "changed", "(LEdgeWear;III[J)I"⟩) ∈ mBig := mBig_in 455 (by decide +kernel) rfl
set_option maxRecDepth 100000 in
theorem k_440 : (Cond.codeWith ⟨"EdgeWearLaw", "changed", "(LEdgeWear;III[J)I"⟩ method_15_code 6 (some FieldType.int) [(0, 11, 14, 13), (0, 11, 18, 15), (0, 11, 22, 17)]) ∈ mBig := mBig_in 456 (rfl) rfl
theorem k_441 : (Cond.methodLink "EdgeWearLaw" 60 ⟨"EdgeWear", "changed", "(III)J"⟩) ∈ mBig := mBig_in 457 (by decide +kernel) rfl
theorem k_442 : (Cond.instanceMethod ⟨"EdgeWear", "changed", "(III)J"⟩) ∈ mBig := mBig_in 458 (by decide +kernel) rfl
theorem k_443 : (Cond.selects "EdgeWear" ⟨"EdgeWear", "changed", "(III)J"⟩ ⟨"EdgeWear", "changed", "(III)J"⟩) ∈ mBig := mBig_in 459 (by decide +kernel) rfl
set_option maxRecDepth 100000 in
theorem k_444 : (Cond.code ⟨"EdgeWear", "changed", "(III)J"⟩ prog_1_method_14_code 5 (some FieldType.long)) ∈ mBig := mBig_in 460 (rfl) rfl
theorem k_447 : (Cond.methodLink "EdgeWear" 173 ⟨"EdgeWear$Sort", "greatestLife", "()I"⟩) ∈ mBig := mBig_in 463 (by decide +kernel) rfl
theorem k_448 : (Cond.instanceMethod ⟨"EdgeWear$Sort", "greatestLife", "()I"⟩) ∈ mBig := mBig_in 464 (by decide +kernel) rfl
theorem k_449 : (Cond.selects "EdgeWear$Sort" ⟨"EdgeWear$Sort", "greatestLife", "()I"⟩ ⟨"EdgeWear$Sort", "greatestLife", "()I"⟩) ∈ mBig := mBig_in 465 (by decide +kernel) rfl
set_option maxRecDepth 100000 in
theorem k_450 : (Cond.code ⟨"EdgeWear$Sort", "greatestLife", "()I"⟩ prog_5_method_2_code 3 (some FieldType.int)) ∈ mBig := mBig_in 466 (rfl) rfl
theorem k_451 : (Cond.methodLink "EdgeWear$Sort" 34 ⟨"java/lang/Math", "max", "(II)I"⟩) ∈ mBig := mBig_in 467 (by decide +kernel) rfl
theorem k_452 : (Cond.static ⟨"java/lang/Math", "max", "(II)I"⟩) ∈ mBig := mBig_in 468 (by decide +kernel) rfl
set_option maxRecDepth 100000 in
theorem k_453 : (Cond.code ⟨"java/lang/Math", "max", "(II)I"⟩ prog_13_method_65_code 2 (some FieldType.int)) ∈ mBig := mBig_in 469 (rfl) rfl
theorem k_455 : (Cond.methodLink "EdgeWear" 178 ⟨"EdgeWear$Sort", "costAt", "(I)J"⟩) ∈ mBig := mBig_in 471 (by decide +kernel) rfl
theorem k_456 : (Cond.methodLink "EdgeWear" 182 ⟨"EdgeWear$Sort", "usesAt", "(I)J"⟩) ∈ mBig := mBig_in 472 (by decide +kernel) rfl
theorem k_457 : (Cond.methodLink "EdgeWearLaw" 147 ⟨"EdgeWearLaw", "breaks", "(LEdgeWear;II[J)I"⟩) ∈ mBig := mBig_in 473 (by decide +kernel) rfl
theorem k_458 : (Cond.static ⟨"EdgeWearLaw", "breaks", "(LEdgeWear;II[J)I"⟩) ∈ mBig := mBig_in 474 (by decide +kernel) rfl
set_option maxRecDepth 100000 in
theorem k_459 : (Cond.codeWith ⟨"EdgeWearLaw", "breaks", "(LEdgeWear;II[J)I"⟩ method_16_code 5 (some FieldType.int) [(0, 10, 13, 13), (0, 10, 17, 15), (0, 10, 21, 17)]) ∈ mBig := mBig_in 475 (rfl) rfl
theorem k_460 : (Cond.methodLink "EdgeWearLaw" 64 ⟨"EdgeWear", "breaks", "(II)I"⟩) ∈ mBig := mBig_in 476 (by decide +kernel) rfl
theorem k_461 : (Cond.instanceMethod ⟨"EdgeWear", "breaks", "(II)I"⟩) ∈ mBig := mBig_in 477 (by decide +kernel) rfl
theorem k_462 : (Cond.selects "EdgeWear" ⟨"EdgeWear", "breaks", "(II)I"⟩ ⟨"EdgeWear", "breaks", "(II)I"⟩) ∈ mBig := mBig_in 478 (by decide +kernel) rfl
set_option maxRecDepth 100000 in
theorem k_463 : (Cond.code ⟨"EdgeWear", "breaks", "(II)I"⟩ prog_1_method_15_code 5 (some FieldType.int)) ∈ mBig := mBig_in 479 (rfl) rfl
theorem k_465 : (Cond.methodLink "EdgeWear" 187 ⟨"EdgeWear", "mixed", "(II)J"⟩) ∈ mBig := mBig_in 481 (by decide +kernel) rfl
theorem k_467 : (Cond.instanceMethod ⟨"EdgeWear", "mixed", "(II)J"⟩) ∈ mBig := mBig_in 483 (by decide +kernel) rfl
set_option maxRecDepth 100000 in
theorem k_468 : (Cond.code ⟨"EdgeWear", "mixed", "(II)J"⟩ prog_1_method_26_code 5 (some FieldType.long)) ∈ mBig := mBig_in 484 (rfl) rfl
theorem k_469 : (Cond.constantLong "EdgeWear" 251 (4 : Int64)) ∈ mBig := mBig_in 485 (by decide +kernel) rfl
theorem k_470 : (Cond.constantLong "EdgeWear" 264 (-7046029254386353131 : Int64)) ∈ mBig := mBig_in 486 (by decide +kernel) rfl
theorem k_471 : (Cond.constantLong "EdgeWear" 266 (-4658895280553007687 : Int64)) ∈ mBig := mBig_in 487 (by decide +kernel) rfl
theorem k_472 : (Cond.constantLong "EdgeWear" 268 (-7723592293110705685 : Int64)) ∈ mBig := mBig_in 488 (by decide +kernel) rfl
theorem k_473 : (Cond.methodLink "EdgeWearLaw" 150 ⟨"EdgeWearLaw", "rules", "(LEdgeWear;IIII)I"⟩) ∈ mBig := mBig_in 489 (by decide +kernel) rfl
theorem k_474 : (Cond.static ⟨"EdgeWearLaw", "rules", "(LEdgeWear;IIII)I"⟩) ∈ mBig := mBig_in 490 (by decide +kernel) rfl
set_option maxRecDepth 100000 in
theorem k_475 : (Cond.codeWith ⟨"EdgeWearLaw", "rules", "(LEdgeWear;IIII)I"⟩ method_17_code 6 (some FieldType.int) [(0, 9, 12, 15)]) ∈ mBig := mBig_in 491 (rfl) rfl
theorem k_476 : (Cond.methodLink "EdgeWearLaw" 67 ⟨"EdgeWear", "rules", "(IIII)V"⟩) ∈ mBig := mBig_in 492 (by decide +kernel) rfl
theorem k_477 : (Cond.instanceMethod ⟨"EdgeWear", "rules", "(IIII)V"⟩) ∈ mBig := mBig_in 493 (by decide +kernel) rfl
theorem k_478 : (Cond.selects "EdgeWear" ⟨"EdgeWear", "rules", "(IIII)V"⟩ ⟨"EdgeWear", "rules", "(IIII)V"⟩) ∈ mBig := mBig_in 494 (by decide +kernel) rfl
set_option maxRecDepth 100000 in
theorem k_479 : (Cond.code ⟨"EdgeWear", "rules", "(IIII)V"⟩ prog_1_method_16_code 5 none) ∈ mBig := mBig_in 495 (rfl) rfl
theorem k_482 : (Cond.methodLink "EdgeWearLaw" 154 ⟨"EdgeWearLaw", "power", "(LEdgeWear;III[J)I"⟩) ∈ mBig := mBig_in 498 (by decide +kernel) rfl
theorem k_483 : (Cond.static ⟨"EdgeWearLaw", "power", "(LEdgeWear;III[J)I"⟩) ∈ mBig := mBig_in 499 (by decide +kernel) rfl
set_option maxRecDepth 100000 in
theorem k_484 : (Cond.codeWith ⟨"EdgeWearLaw", "power", "(LEdgeWear;III[J)I"⟩ method_18_code 6 (some FieldType.int) [(0, 12, 15, 13), (0, 12, 19, 15)]) ∈ mBig := mBig_in 500 (rfl) rfl
theorem k_485 : (Cond.methodLink "EdgeWearLaw" 71 ⟨"EdgeWear", "power", "(III)I"⟩) ∈ mBig := mBig_in 501 (by decide +kernel) rfl
theorem k_486 : (Cond.instanceMethod ⟨"EdgeWear", "power", "(III)I"⟩) ∈ mBig := mBig_in 502 (by decide +kernel) rfl
theorem k_487 : (Cond.selects "EdgeWear" ⟨"EdgeWear", "power", "(III)I"⟩ ⟨"EdgeWear", "power", "(III)I"⟩) ∈ mBig := mBig_in 503 (by decide +kernel) rfl
set_option maxRecDepth 100000 in
theorem k_488 : (Cond.code ⟨"EdgeWear", "power", "(III)I"⟩ prog_1_method_17_code 5 (some FieldType.int)) ∈ mBig := mBig_in 504 (rfl) rfl
theorem k_491 : (Cond.methodLink "EdgeWear" 220 ⟨"EdgeWear$Readings", "add", "(II)V"⟩) ∈ mBig := mBig_in 507 (by decide +kernel) rfl
theorem k_492 : (Cond.instanceMethod ⟨"EdgeWear$Readings", "add", "(II)V"⟩) ∈ mBig := mBig_in 508 (by decide +kernel) rfl
theorem k_493 : (Cond.selects "EdgeWear$Readings" ⟨"EdgeWear$Readings", "add", "(II)V"⟩ ⟨"EdgeWear$Readings", "add", "(II)V"⟩) ∈ mBig := mBig_in 509 (by decide +kernel) rfl
set_option maxRecDepth 100000 in
theorem k_494 : (Cond.code ⟨"EdgeWear$Readings", "add", "(II)V"⟩ prog_3_method_2_code 3 none) ∈ mBig := mBig_in 510 (rfl) rfl
theorem k_495 : (Cond.methodLink "EdgeWear$Readings" 19 ⟨"java/lang/System", "arraycopy", "(Ljava/lang/Object;ILjava/lang/Object;II)V"⟩) ∈ mBig := mBig_in 511 (by decide +kernel) rfl
theorem k_496 : (Cond.static ⟨"java/lang/System", "arraycopy", "(Ljava/lang/Object;ILjava/lang/Object;II)V"⟩) ∈ mBig := mBig_in 512 (by decide +kernel) rfl
theorem k_497 : (Cond.native ⟨"java/lang/System", "arraycopy", "(Ljava/lang/Object;ILjava/lang/Object;II)V"⟩) ∈ mBig := mBig_in 513 (by decide +kernel) rfl
theorem k_498 : (Cond.methodLink "EdgeWear$Readings" 28 ⟨"java/lang/Math", "min", "(II)I"⟩) ∈ mBig := mBig_in 514 (by decide +kernel) rfl
theorem k_499 : (Cond.methodLink "EdgeWear" 224 ⟨"EdgeWear$Rules", "firstThatTells", "(LEdgeWear$Readings;)I"⟩) ∈ mBig := mBig_in 515 (by decide +kernel) rfl
theorem k_500 : (Cond.instanceMethod ⟨"EdgeWear$Rules", "firstThatTells", "(LEdgeWear$Readings;)I"⟩) ∈ mBig := mBig_in 516 (by decide +kernel) rfl
theorem k_501 : (Cond.selects "EdgeWear$Rules" ⟨"EdgeWear$Rules", "firstThatTells", "(LEdgeWear$Readings;)I"⟩ ⟨"EdgeWear$Rules", "firstThatTells", "(LEdgeWear$Readings;)I"⟩) ∈ mBig := mBig_in 517 (by decide +kernel) rfl
set_option maxRecDepth 100000 in
theorem k_502 : (Cond.code ⟨"EdgeWear$Rules", "firstThatTells", "(LEdgeWear$Readings;)I"⟩ prog_4_method_2_code 2 (some FieldType.int)) ∈ mBig := mBig_in 518 (rfl) rfl
theorem k_503 : (Cond.methodLink "EdgeWear$Rules" 24 ⟨"EdgeWear$Readings", "isAbove", "(I)Z"⟩) ∈ mBig := mBig_in 519 (by decide +kernel) rfl
theorem k_504 : (Cond.instanceMethod ⟨"EdgeWear$Readings", "isAbove", "(I)Z"⟩) ∈ mBig := mBig_in 520 (by decide +kernel) rfl
theorem k_505 : (Cond.selects "EdgeWear$Readings" ⟨"EdgeWear$Readings", "isAbove", "(I)Z"⟩ ⟨"EdgeWear$Readings", "isAbove", "(I)Z"⟩) ∈ mBig := mBig_in 521 (by decide +kernel) rfl
set_option maxRecDepth 100000 in
theorem k_506 : (Cond.code ⟨"EdgeWear$Readings", "isAbove", "(I)Z"⟩ prog_3_method_3_code 2 (some FieldType.boolean)) ∈ mBig := mBig_in 522 (rfl) rfl
theorem k_507 : (Cond.methodLink "EdgeWear$Rules" 30 ⟨"EdgeWear$Readings", "isRising", "(I)Z"⟩) ∈ mBig := mBig_in 523 (by decide +kernel) rfl
theorem k_508 : (Cond.instanceMethod ⟨"EdgeWear$Readings", "isRising", "(I)Z"⟩) ∈ mBig := mBig_in 524 (by decide +kernel) rfl
theorem k_509 : (Cond.selects "EdgeWear$Readings" ⟨"EdgeWear$Readings", "isRising", "(I)Z"⟩ ⟨"EdgeWear$Readings", "isRising", "(I)Z"⟩) ∈ mBig := mBig_in 525 (by decide +kernel) rfl
set_option maxRecDepth 100000 in
theorem k_510 : (Cond.code ⟨"EdgeWear$Readings", "isRising", "(I)Z"⟩ prog_3_method_4_code 3 (some FieldType.boolean)) ∈ mBig := mBig_in 526 (rfl) rfl
theorem k_511 : (Cond.methodLink "EdgeWear$Rules" 33 ⟨"EdgeWear$Readings", "staysAbove", "(II)Z"⟩) ∈ mBig := mBig_in 527 (by decide +kernel) rfl
theorem k_512 : (Cond.instanceMethod ⟨"EdgeWear$Readings", "staysAbove", "(II)Z"⟩) ∈ mBig := mBig_in 528 (by decide +kernel) rfl
theorem k_513 : (Cond.selects "EdgeWear$Readings" ⟨"EdgeWear$Readings", "staysAbove", "(II)Z"⟩ ⟨"EdgeWear$Readings", "staysAbove", "(II)Z"⟩) ∈ mBig := mBig_in 529 (by decide +kernel) rfl
set_option maxRecDepth 100000 in
theorem k_514 : (Cond.code ⟨"EdgeWear$Readings", "staysAbove", "(II)Z"⟩ prog_3_method_5_code 4 (some FieldType.boolean)) ∈ mBig := mBig_in 530 (rfl) rfl
theorem k_515 : (Cond.methodLink "EdgeWear$Rules" 37 ⟨"EdgeWear$Readings", "isJumping", "(I)Z"⟩) ∈ mBig := mBig_in 531 (by decide +kernel) rfl
theorem k_516 : (Cond.instanceMethod ⟨"EdgeWear$Readings", "isJumping", "(I)Z"⟩) ∈ mBig := mBig_in 532 (by decide +kernel) rfl
theorem k_517 : (Cond.selects "EdgeWear$Readings" ⟨"EdgeWear$Readings", "isJumping", "(I)Z"⟩ ⟨"EdgeWear$Readings", "isJumping", "(I)Z"⟩) ∈ mBig := mBig_in 533 (by decide +kernel) rfl
set_option maxRecDepth 100000 in
theorem k_518 : (Cond.code ⟨"EdgeWear$Readings", "isJumping", "(I)Z"⟩ prog_3_method_6_code 2 (some FieldType.boolean)) ∈ mBig := mBig_in 534 (rfl) rfl
theorem k_519 : (Cond.methodLink "EdgeWear$Readings" 34 ⟨"EdgeWear$Readings", "step", "(I)I"⟩) ∈ mBig := mBig_in 535 (by decide +kernel) rfl
theorem k_520 : (Cond.instanceMethod ⟨"EdgeWear$Readings", "step", "(I)I"⟩) ∈ mBig := mBig_in 536 (by decide +kernel) rfl
theorem k_521 : (Cond.selects "EdgeWear$Readings" ⟨"EdgeWear$Readings", "step", "(I)I"⟩ ⟨"EdgeWear$Readings", "step", "(I)I"⟩) ∈ mBig := mBig_in 537 (by decide +kernel) rfl
set_option maxRecDepth 100000 in
theorem k_522 : (Cond.code ⟨"EdgeWear$Readings", "step", "(I)I"⟩ prog_3_method_7_code 2 (some FieldType.int)) ∈ mBig := mBig_in 538 (rfl) rfl
theorem k_523 : (Cond.methodLink "EdgeWear$Readings" 38 ⟨"java/lang/Math", "abs", "(I)I"⟩) ∈ mBig := mBig_in 539 (by decide +kernel) rfl
theorem k_524 : (Cond.static ⟨"java/lang/Math", "abs", "(I)I"⟩) ∈ mBig := mBig_in 540 (by decide +kernel) rfl
set_option maxRecDepth 100000 in
theorem k_525 : (Cond.code ⟨"java/lang/Math", "abs", "(I)I"⟩ prog_13_method_59_code 1 (some FieldType.int)) ∈ mBig := mBig_in 541 (rfl) rfl
theorem k_526 : (Cond.methodLink "EdgeWearLaw" 157 ⟨"EdgeWearLaw", "order", "(LEdgeWear;II[J)I"⟩) ∈ mBig := mBig_in 542 (by decide +kernel) rfl
theorem k_527 : (Cond.static ⟨"EdgeWearLaw", "order", "(LEdgeWear;II[J)I"⟩) ∈ mBig := mBig_in 543 (by decide +kernel) rfl
set_option maxRecDepth 100000 in
theorem k_528 : (Cond.codeWith ⟨"EdgeWearLaw", "order", "(LEdgeWear;II[J)I"⟩ method_19_code 5 (some FieldType.int) [(0, 17, 20, 13), (0, 17, 24, 15)]) ∈ mBig := mBig_in 544 (rfl) rfl
theorem k_529 : (Cond.methodLink "EdgeWearLaw" 74 ⟨"EdgeWear", "order", "(II)Z"⟩) ∈ mBig := mBig_in 545 (by decide +kernel) rfl
theorem k_530 : (Cond.instanceMethod ⟨"EdgeWear", "order", "(II)Z"⟩) ∈ mBig := mBig_in 546 (by decide +kernel) rfl
theorem k_531 : (Cond.selects "EdgeWear" ⟨"EdgeWear", "order", "(II)Z"⟩ ⟨"EdgeWear", "order", "(II)Z"⟩) ∈ mBig := mBig_in 547 (by decide +kernel) rfl
set_option maxRecDepth 100000 in
theorem k_532 : (Cond.code ⟨"EdgeWear", "order", "(II)Z"⟩ prog_1_method_18_code 4 (some FieldType.boolean)) ∈ mBig := mBig_in 548 (rfl) rfl
theorem k_534 : (Cond.instantiable "EdgeWear$Order" 3) ∈ mBig := mBig_in 550 (by decide +kernel) rfl
theorem k_535 : (Cond.methodLink "EdgeWear" 233 ⟨"EdgeWear$Order", "<init>", "(II)V"⟩) ∈ mBig := mBig_in 551 (by decide +kernel) rfl
theorem k_536 : (Cond.instanceMethod ⟨"EdgeWear$Order", "<init>", "(II)V"⟩) ∈ mBig := mBig_in 552 (by decide +kernel) rfl
set_option maxRecDepth 100000 in
theorem k_537 : (Cond.code ⟨"EdgeWear$Order", "<init>", "(II)V"⟩ prog_2_method_1_code 3 none) ∈ mBig := mBig_in 553 (rfl) rfl
theorem k_538 : (Cond.methodLink "EdgeWear$Order" 1 ⟨"java/lang/Object", "<init>", "()V"⟩) ∈ mBig := mBig_in 554 (by decide +kernel) rfl
theorem k_539 : (Cond.fieldLink "EdgeWear$Order" 7 "EdgeWear$Order" "sort" "I") ∈ mBig := mBig_in 555 (by decide +kernel) rfl
theorem k_540 : (Cond.fieldLink "EdgeWear$Order" 13 "EdgeWear$Order" "day" "I") ∈ mBig := mBig_in 556 (by decide +kernel) rfl
theorem k_541 : (Cond.fieldLink "EdgeWear$Order" 16 "EdgeWear$Order" "done" "Z") ∈ mBig := mBig_in 557 (by decide +kernel) rfl
theorem k_542 : (Cond.fieldLink "EdgeWear" 242 "EdgeWear$Order" "done" "Z") ∈ mBig := mBig_in 558 (by decide +kernel) rfl
theorem k_550 : (Cond.methodLink "EdgeWearLaw" 160 ⟨"EdgeWearLaw", "joined", "(LEdgeWear;II[J)I"⟩) ∈ mBig := mBig_in 566 (by decide +kernel) rfl
theorem k_551 : (Cond.static ⟨"EdgeWearLaw", "joined", "(LEdgeWear;II[J)I"⟩) ∈ mBig := mBig_in 567 (by decide +kernel) rfl
set_option maxRecDepth 100000 in
theorem k_552 : (Cond.codeWith ⟨"EdgeWearLaw", "joined", "(LEdgeWear;II[J)I"⟩ method_20_code 5 (some FieldType.int) [(0, 10, 13, 13), (0, 10, 17, 15)]) ∈ mBig := mBig_in 568 (rfl) rfl
theorem k_553 : (Cond.methodLink "EdgeWearLaw" 77 ⟨"EdgeWear", "joined", "(II)I"⟩) ∈ mBig := mBig_in 569 (by decide +kernel) rfl
theorem k_554 : (Cond.instanceMethod ⟨"EdgeWear", "joined", "(II)I"⟩) ∈ mBig := mBig_in 570 (by decide +kernel) rfl
theorem k_555 : (Cond.selects "EdgeWear" ⟨"EdgeWear", "joined", "(II)I"⟩ ⟨"EdgeWear", "joined", "(II)I"⟩) ∈ mBig := mBig_in 571 (by decide +kernel) rfl
set_option maxRecDepth 100000 in
theorem k_556 : (Cond.code ⟨"EdgeWear", "joined", "(II)I"⟩ prog_1_method_19_code 4 (some FieldType.int)) ∈ mBig := mBig_in 572 (rfl) rfl
theorem k_557 : (Cond.methodLink "EdgeWear" 235 ⟨"EdgeWear", "isAnyDue", "(II)Z"⟩) ∈ mBig := mBig_in 573 (by decide +kernel) rfl
theorem k_559 : (Cond.instanceMethod ⟨"EdgeWear", "isAnyDue", "(II)Z"⟩) ∈ mBig := mBig_in 575 (by decide +kernel) rfl
set_option maxRecDepth 100000 in
theorem k_560 : (Cond.code ⟨"EdgeWear", "isAnyDue", "(II)Z"⟩ prog_1_method_27_code 5 (some FieldType.boolean)) ∈ mBig := mBig_in 576 (rfl) rfl
theorem k_561 : (Cond.methodLink "EdgeWear" 270 ⟨"EdgeWear$Order", "isDue", "(II)Z"⟩) ∈ mBig := mBig_in 577 (by decide +kernel) rfl
theorem k_562 : (Cond.instanceMethod ⟨"EdgeWear$Order", "isDue", "(II)Z"⟩) ∈ mBig := mBig_in 578 (by decide +kernel) rfl
theorem k_563 : (Cond.selects "EdgeWear$Order" ⟨"EdgeWear$Order", "isDue", "(II)Z"⟩ ⟨"EdgeWear$Order", "isDue", "(II)Z"⟩) ∈ mBig := mBig_in 579 (by decide +kernel) rfl
set_option maxRecDepth 100000 in
theorem k_564 : (Cond.code ⟨"EdgeWear$Order", "isDue", "(II)Z"⟩ prog_2_method_2_code 3 (some FieldType.boolean)) ∈ mBig := mBig_in 580 (rfl) rfl
theorem k_565 : (Cond.methodLink "EdgeWear" 239 ⟨"EdgeWear", "closeDue", "(II)I"⟩) ∈ mBig := mBig_in 581 (by decide +kernel) rfl
theorem k_567 : (Cond.instanceMethod ⟨"EdgeWear", "closeDue", "(II)I"⟩) ∈ mBig := mBig_in 583 (by decide +kernel) rfl
set_option maxRecDepth 100000 in
theorem k_568 : (Cond.code ⟨"EdgeWear", "closeDue", "(II)I"⟩ prog_1_method_28_code 6 (some FieldType.int)) ∈ mBig := mBig_in 584 (rfl) rfl
theorem k_569 : (Cond.methodLink "EdgeWearLaw" 167 ⟨"EdgeWearLaw", "chip", "(LEdgeWear;IIII[J)I"⟩) ∈ mBig := mBig_in 585 (by decide +kernel) rfl
theorem k_570 : (Cond.static ⟨"EdgeWearLaw", "chip", "(LEdgeWear;IIII[J)I"⟩) ∈ mBig := mBig_in 586 (by decide +kernel) rfl
set_option maxRecDepth 100000 in
theorem k_571 : (Cond.codeWith ⟨"EdgeWearLaw", "chip", "(LEdgeWear;IIII[J)I"⟩ method_21_code 7 (some FieldType.int) [(0, 14, 17, 13), (0, 14, 21, 15)]) ∈ mBig := mBig_in 587 (rfl) rfl
theorem k_572 : (Cond.methodLink "EdgeWearLaw" 80 ⟨"EdgeWear", "chip", "(IIII)I"⟩) ∈ mBig := mBig_in 588 (by decide +kernel) rfl
theorem k_573 : (Cond.instanceMethod ⟨"EdgeWear", "chip", "(IIII)I"⟩) ∈ mBig := mBig_in 589 (by decide +kernel) rfl
theorem k_574 : (Cond.selects "EdgeWear" ⟨"EdgeWear", "chip", "(IIII)I"⟩ ⟨"EdgeWear", "chip", "(IIII)I"⟩) ∈ mBig := mBig_in 590 (by decide +kernel) rfl
set_option maxRecDepth 100000 in
theorem k_575 : (Cond.code ⟨"EdgeWear", "chip", "(IIII)I"⟩ prog_1_method_21_code 10 (some FieldType.int)) ∈ mBig := mBig_in 591 (rfl) rfl
theorem k_579 : (Cond.methodLink "EdgeWear" 253 ⟨"EdgeWear", "wholeThickness", "(JI)I"⟩) ∈ mBig := mBig_in 595 (by decide +kernel) rfl
theorem k_580 : (Cond.static ⟨"EdgeWear", "wholeThickness", "(JI)I"⟩) ∈ mBig := mBig_in 596 (by decide +kernel) rfl
set_option maxRecDepth 100000 in
theorem k_581 : (Cond.code ⟨"EdgeWear", "wholeThickness", "(JI)I"⟩ prog_1_method_29_code 7 (some FieldType.int)) ∈ mBig := mBig_in 597 (rfl) rfl
theorem k_582 : (Cond.constant "EdgeWear" 273 (524288 : Int32)) ∈ mBig := mBig_in 598 (by decide +kernel) rfl
theorem k_583 : (Cond.classLink "EdgeWearLaw" 93 "EdgeWearModel") ∈ mBig := mBig_in 599 (by decide +kernel) rfl
theorem k_584 : (Cond.instantiable "EdgeWearModel" 28) ∈ mBig := mBig_in 600 (by decide +kernel) rfl
theorem k_585 : (Cond.methodLink "EdgeWearLaw" 95 ⟨"EdgeWearModel", "<init>", "(I)V"⟩) ∈ mBig := mBig_in 601 (by decide +kernel) rfl
theorem k_586 : (Cond.instanceMethod ⟨"EdgeWearModel", "<init>", "(I)V"⟩) ∈ mBig := mBig_in 602 (by decide +kernel) rfl
set_option maxRecDepth 100000 in
theorem k_587 : (Cond.code ⟨"EdgeWearModel", "<init>", "(I)V"⟩ prog_8_method_1_code 2 none) ∈ mBig := mBig_in 603 (rfl) rfl
theorem k_588 : (Cond.methodLink "EdgeWearModel" 1 ⟨"java/lang/Object", "<init>", "()V"⟩) ∈ mBig := mBig_in 604 (by decide +kernel) rfl
theorem k_589 : (Cond.constantLong "EdgeWearModel" 39 (1000000 : Int64)) ∈ mBig := mBig_in 605 (by decide +kernel) rfl
theorem k_590 : (Cond.fieldLink "EdgeWearModel" 88 "EdgeWearModel" "thrown" "I") ∈ mBig := mBig_in 606 (by decide +kernel) rfl
theorem k_591 : (Cond.fieldLink "EdgeWearModel" 84 "EdgeWearModel" "seed" "J") ∈ mBig := mBig_in 607 (by decide +kernel) rfl
theorem k_592 : (Cond.fieldLink "EdgeWearModel" 91 "EdgeWearModel" "tools" "I") ∈ mBig := mBig_in 608 (by decide +kernel) rfl
theorem k_593 : (Cond.fieldLink "EdgeWearModel" 7 "EdgeWearModel" "sorts" "[I") ∈ mBig := mBig_in 609 (by decide +kernel) rfl
theorem k_594 : (Cond.fieldLink "EdgeWearModel" 13 "EdgeWearModel" "lengths" "[I") ∈ mBig := mBig_in 610 (by decide +kernel) rfl
theorem k_595 : (Cond.fieldLink "EdgeWearModel" 16 "EdgeWearModel" "leasts" "[I") ∈ mBig := mBig_in 611 (by decide +kernel) rfl
theorem k_596 : (Cond.fieldLink "EdgeWearModel" 19 "EdgeWearModel" "wears" "[J") ∈ mBig := mBig_in 612 (by decide +kernel) rfl
theorem k_597 : (Cond.fieldLink "EdgeWearModel" 23 "EdgeWearModel" "barred" "[Z") ∈ mBig := mBig_in 613 (by decide +kernel) rfl
theorem k_598 : (Cond.fieldLink "EdgeWearModel" 27 "EdgeWearModel" "outs" "[Z") ∈ mBig := mBig_in 614 (by decide +kernel) rfl
theorem k_599 : (Cond.fieldLink "EdgeWearModel" 30 "EdgeWearModel" "uses" "[I") ∈ mBig := mBig_in 615 (by decide +kernel) rfl
theorem k_600 : (Cond.fieldLink "EdgeWearModel" 33 "EdgeWearModel" "grinds" "[I") ∈ mBig := mBig_in 616 (by decide +kernel) rfl
theorem k_601 : (Cond.fieldLink "EdgeWearModel" 36 "EdgeWearModel" "rates" "[J") ∈ mBig := mBig_in 617 (by decide +kernel) rfl
theorem k_602 : (Cond.fieldLink "EdgeWearModel" 41 "EdgeWearModel" "limits" "[J") ∈ mBig := mBig_in 618 (by decide +kernel) rfl
theorem k_603 : (Cond.fieldLink "EdgeWearModel" 44 "EdgeWearModel" "lives" "[I") ∈ mBig := mBig_in 619 (by decide +kernel) rfl
theorem k_604 : (Cond.fieldLink "EdgeWearModel" 47 "EdgeWearModel" "many" "[I") ∈ mBig := mBig_in 620 (by decide +kernel) rfl
theorem k_605 : (Cond.fieldLink "EdgeWearModel" 50 "EdgeWearModel" "changes" "[J") ∈ mBig := mBig_in 621 (by decide +kernel) rfl
theorem k_606 : (Cond.fieldLink "EdgeWearModel" 53 "EdgeWearModel" "fails" "[J") ∈ mBig := mBig_in 622 (by decide +kernel) rfl
theorem k_607 : (Cond.fieldLink "EdgeWearModel" 56 "EdgeWearModel" "high" "I") ∈ mBig := mBig_in 623 (by decide +kernel) rfl
theorem k_608 : (Cond.fieldLink "EdgeWearModel" 60 "EdgeWearModel" "run" "I") ∈ mBig := mBig_in 624 (by decide +kernel) rfl
theorem k_609 : (Cond.fieldLink "EdgeWearModel" 63 "EdgeWearModel" "middle" "I") ∈ mBig := mBig_in 625 (by decide +kernel) rfl
theorem k_610 : (Cond.fieldLink "EdgeWearModel" 66 "EdgeWearModel" "jump" "I") ∈ mBig := mBig_in 626 (by decide +kernel) rfl
theorem k_611 : (Cond.fieldLink "EdgeWearModel" 69 "EdgeWearModel" "readings" "[I") ∈ mBig := mBig_in 627 (by decide +kernel) rfl
theorem k_612 : (Cond.fieldLink "EdgeWearModel" 72 "EdgeWearModel" "has" "[I") ∈ mBig := mBig_in 628 (by decide +kernel) rfl
theorem k_613 : (Cond.fieldLink "EdgeWearModel" 75 "EdgeWearModel" "minutes" "[I") ∈ mBig := mBig_in 629 (by decide +kernel) rfl
theorem k_614 : (Cond.fieldLink "EdgeWearModel" 78 "EdgeWearModel" "orderTools" "[I") ∈ mBig := mBig_in 630 (by decide +kernel) rfl
theorem k_615 : (Cond.fieldLink "EdgeWearModel" 81 "EdgeWearModel" "orderDays" "[I") ∈ mBig := mBig_in 631 (by decide +kernel) rfl
theorem k_616 : (Cond.fieldLink "EdgeWearModel" 159 "EdgeWearModel" "orders" "I") ∈ mBig := mBig_in 632 (by decide +kernel) rfl
theorem k_617 : (Cond.fieldLink "EdgeWearModel" 156 "EdgeWearModel" "toldOrders" "I") ∈ mBig := mBig_in 633 (by decide +kernel) rfl
theorem k_675 : (Cond.arrayClass FieldType.long) ∈ mBig := mBig_in 691 (by decide +kernel) rfl
theorem k_676 : (Cond.arrayClass FieldType.boolean) ∈ mBig := mBig_in 692 (by decide +kernel) rfl
theorem k_677 : (Cond.methodLink "EdgeWearLaw" 100 ⟨"EdgeWearModel", "thrown", "()I"⟩) ∈ mBig := mBig_in 693 (by decide +kernel) rfl
theorem k_678 : (Cond.instanceMethod ⟨"EdgeWearModel", "thrown", "()I"⟩) ∈ mBig := mBig_in 694 (by decide +kernel) rfl
theorem k_679 : (Cond.selects "EdgeWearModel" ⟨"EdgeWearModel", "thrown", "()I"⟩ ⟨"EdgeWearModel", "thrown", "()I"⟩) ∈ mBig := mBig_in 695 (by decide +kernel) rfl
set_option maxRecDepth 100000 in
theorem k_680 : (Cond.code ⟨"EdgeWearModel", "thrown", "()I"⟩ prog_8_method_2_code 1 (some FieldType.int)) ∈ mBig := mBig_in 696 (rfl) rfl
theorem k_681 : (Cond.methodLink "EdgeWearLaw" 99 ⟨"EdgeWearModel", "tool", "(III)I"⟩) ∈ mBig := mBig_in 697 (by decide +kernel) rfl
theorem k_682 : (Cond.instanceMethod ⟨"EdgeWearModel", "tool", "(III)I"⟩) ∈ mBig := mBig_in 698 (by decide +kernel) rfl
theorem k_683 : (Cond.selects "EdgeWearModel" ⟨"EdgeWearModel", "tool", "(III)I"⟩ ⟨"EdgeWearModel", "tool", "(III)I"⟩) ∈ mBig := mBig_in 699 (by decide +kernel) rfl
set_option maxRecDepth 100000 in
theorem k_684 : (Cond.code ⟨"EdgeWearModel", "tool", "(III)I"⟩ prog_8_method_6_code 4 (some FieldType.int)) ∈ mBig := mBig_in 700 (rfl) rfl
theorem k_685 : (Cond.methodLink "EdgeWearModel" 94 ⟨"EdgeWearModel", "isFour", "(I)Z"⟩) ∈ mBig := mBig_in 701 (by decide +kernel) rfl
theorem k_686 : (Cond.static ⟨"EdgeWearModel", "isFour", "(I)Z"⟩) ∈ mBig := mBig_in 702 (by decide +kernel) rfl
set_option maxRecDepth 100000 in
theorem k_687 : (Cond.code ⟨"EdgeWearModel", "isFour", "(I)Z"⟩ prog_8_method_4_code 1 (some FieldType.boolean)) ∈ mBig := mBig_in 703 (rfl) rfl
theorem k_688 : (Cond.methodLink "EdgeWearModel" 98 ⟨"EdgeWearModel", "isIn", "(JJJ)Z"⟩) ∈ mBig := mBig_in 704 (by decide +kernel) rfl
theorem k_689 : (Cond.static ⟨"EdgeWearModel", "isIn", "(JJJ)Z"⟩) ∈ mBig := mBig_in 705 (by decide +kernel) rfl
set_option maxRecDepth 100000 in
theorem k_690 : (Cond.code ⟨"EdgeWearModel", "isIn", "(JJJ)Z"⟩ prog_8_method_3_code 6 (some FieldType.boolean)) ∈ mBig := mBig_in 706 (rfl) rfl
theorem k_691 : (Cond.constant "EdgeWearModel" 102 (1000000 : Int32)) ∈ mBig := mBig_in 707 (by decide +kernel) rfl
theorem k_692 : (Cond.methodLink "EdgeWearLaw" 107 ⟨"EdgeWearModel", "rate", "(III)V"⟩) ∈ mBig := mBig_in 708 (by decide +kernel) rfl
theorem k_693 : (Cond.instanceMethod ⟨"EdgeWearModel", "rate", "(III)V"⟩) ∈ mBig := mBig_in 709 (by decide +kernel) rfl
theorem k_694 : (Cond.selects "EdgeWearModel" ⟨"EdgeWearModel", "rate", "(III)V"⟩ ⟨"EdgeWearModel", "rate", "(III)V"⟩) ∈ mBig := mBig_in 710 (by decide +kernel) rfl
set_option maxRecDepth 100000 in
theorem k_695 : (Cond.code ⟨"EdgeWearModel", "rate", "(III)V"⟩ prog_8_method_7_code 4 none) ∈ mBig := mBig_in 711 (rfl) rfl
theorem k_696 : (Cond.methodLink "EdgeWearLaw" 113 ⟨"EdgeWearModel", "limit", "(IJ)V"⟩) ∈ mBig := mBig_in 712 (by decide +kernel) rfl
theorem k_697 : (Cond.instanceMethod ⟨"EdgeWearModel", "limit", "(IJ)V"⟩) ∈ mBig := mBig_in 713 (by decide +kernel) rfl
theorem k_698 : (Cond.selects "EdgeWearModel" ⟨"EdgeWearModel", "limit", "(IJ)V"⟩ ⟨"EdgeWearModel", "limit", "(IJ)V"⟩) ∈ mBig := mBig_in 714 (by decide +kernel) rfl
set_option maxRecDepth 100000 in
theorem k_699 : (Cond.code ⟨"EdgeWearModel", "limit", "(IJ)V"⟩ prog_8_method_8_code 4 none) ∈ mBig := mBig_in 715 (rfl) rfl
theorem k_700 : (Cond.constantLong "EdgeWearModel" 103 (1000000000000 : Int64)) ∈ mBig := mBig_in 716 (by decide +kernel) rfl
theorem k_701 : (Cond.methodLink "EdgeWearLaw" 117 ⟨"EdgeWearModel", "use", "(IIII)Z"⟩) ∈ mBig := mBig_in 717 (by decide +kernel) rfl
theorem k_702 : (Cond.instanceMethod ⟨"EdgeWearModel", "use", "(IIII)Z"⟩) ∈ mBig := mBig_in 718 (by decide +kernel) rfl
theorem k_703 : (Cond.selects "EdgeWearModel" ⟨"EdgeWearModel", "use", "(IIII)Z"⟩ ⟨"EdgeWearModel", "use", "(IIII)Z"⟩) ∈ mBig := mBig_in 719 (by decide +kernel) rfl
set_option maxRecDepth 100000 in
theorem k_704 : (Cond.code ⟨"EdgeWearModel", "use", "(IIII)Z"⟩ prog_8_method_10_code 5 (some FieldType.boolean)) ∈ mBig := mBig_in 720 (rfl) rfl
theorem k_705 : (Cond.methodLink "EdgeWearModel" 105 ⟨"EdgeWearModel", "noTool", "(I)Z"⟩) ∈ mBig := mBig_in 721 (by decide +kernel) rfl
theorem k_707 : (Cond.instanceMethod ⟨"EdgeWearModel", "noTool", "(I)Z"⟩) ∈ mBig := mBig_in 723 (by decide +kernel) rfl
set_option maxRecDepth 100000 in
theorem k_708 : (Cond.code ⟨"EdgeWearModel", "noTool", "(I)Z"⟩ prog_8_method_5_code 2 (some FieldType.boolean)) ∈ mBig := mBig_in 724 (rfl) rfl
theorem k_709 : (Cond.constantLong "EdgeWearModel" 108 (1000000000000000 : Int64)) ∈ mBig := mBig_in 725 (by decide +kernel) rfl
theorem k_710 : (Cond.methodLink "EdgeWearModel" 110 ⟨"EdgeWearModel", "isBlunt", "(I)Z"⟩) ∈ mBig := mBig_in 726 (by decide +kernel) rfl
theorem k_712 : (Cond.instanceMethod ⟨"EdgeWearModel", "isBlunt", "(I)Z"⟩) ∈ mBig := mBig_in 728 (by decide +kernel) rfl
set_option maxRecDepth 100000 in
theorem k_713 : (Cond.code ⟨"EdgeWearModel", "isBlunt", "(I)Z"⟩ prog_8_method_9_code 2 (some FieldType.boolean)) ∈ mBig := mBig_in 729 (rfl) rfl
theorem k_714 : (Cond.methodLink "EdgeWearLaw" 121 ⟨"EdgeWearModel", "grind", "(II)Z"⟩) ∈ mBig := mBig_in 730 (by decide +kernel) rfl
theorem k_715 : (Cond.instanceMethod ⟨"EdgeWearModel", "grind", "(II)Z"⟩) ∈ mBig := mBig_in 731 (by decide +kernel) rfl
theorem k_716 : (Cond.selects "EdgeWearModel" ⟨"EdgeWearModel", "grind", "(II)Z"⟩ ⟨"EdgeWearModel", "grind", "(II)Z"⟩) ∈ mBig := mBig_in 732 (by decide +kernel) rfl
set_option maxRecDepth 100000 in
theorem k_717 : (Cond.code ⟨"EdgeWearModel", "grind", "(II)Z"⟩ prog_8_method_11_code 3 (some FieldType.boolean)) ∈ mBig := mBig_in 733 (rfl) rfl
theorem k_718 : (Cond.methodLink "EdgeWearLaw" 124 ⟨"EdgeWearModel", "about", "(II)J"⟩) ∈ mBig := mBig_in 734 (by decide +kernel) rfl
theorem k_719 : (Cond.instanceMethod ⟨"EdgeWearModel", "about", "(II)J"⟩) ∈ mBig := mBig_in 735 (by decide +kernel) rfl
theorem k_720 : (Cond.selects "EdgeWearModel" ⟨"EdgeWearModel", "about", "(II)J"⟩ ⟨"EdgeWearModel", "about", "(II)J"⟩) ∈ mBig := mBig_in 736 (by decide +kernel) rfl
set_option maxRecDepth 100000 in
theorem k_721 : (Cond.code ⟨"EdgeWearModel", "about", "(II)J"⟩ prog_8_method_12_code 3 (some FieldType.long)) ∈ mBig := mBig_in 737 (rfl) rfl
theorem k_722 : (Cond.constantLong "EdgeWearModel" 113 (5 : Int64)) ∈ mBig := mBig_in 738 (by decide +kernel) rfl
theorem k_723 : (Cond.methodLink "EdgeWearLaw" 128 ⟨"EdgeWearModel", "spare", "(I)I"⟩) ∈ mBig := mBig_in 739 (by decide +kernel) rfl
theorem k_724 : (Cond.instanceMethod ⟨"EdgeWearModel", "spare", "(I)I"⟩) ∈ mBig := mBig_in 740 (by decide +kernel) rfl
theorem k_725 : (Cond.selects "EdgeWearModel" ⟨"EdgeWearModel", "spare", "(I)I"⟩ ⟨"EdgeWearModel", "spare", "(I)I"⟩) ∈ mBig := mBig_in 741 (by decide +kernel) rfl
set_option maxRecDepth 100000 in
theorem k_726 : (Cond.code ⟨"EdgeWearModel", "spare", "(I)I"⟩ prog_8_method_14_code 4 (some FieldType.int)) ∈ mBig := mBig_in 742 (rfl) rfl
theorem k_727 : (Cond.methodLink "EdgeWearModel" 115 ⟨"EdgeWearModel", "isSpare", "(II)Z"⟩) ∈ mBig := mBig_in 743 (by decide +kernel) rfl
theorem k_729 : (Cond.instanceMethod ⟨"EdgeWearModel", "isSpare", "(II)Z"⟩) ∈ mBig := mBig_in 745 (by decide +kernel) rfl
set_option maxRecDepth 100000 in
theorem k_730 : (Cond.code ⟨"EdgeWearModel", "isSpare", "(II)Z"⟩ prog_8_method_13_code 3 (some FieldType.boolean)) ∈ mBig := mBig_in 746 (rfl) rfl
theorem k_731 : (Cond.methodLink "EdgeWearLaw" 131 ⟨"EdgeWearModel", "take", "(I)I"⟩) ∈ mBig := mBig_in 747 (by decide +kernel) rfl
theorem k_732 : (Cond.instanceMethod ⟨"EdgeWearModel", "take", "(I)I"⟩) ∈ mBig := mBig_in 748 (by decide +kernel) rfl
theorem k_733 : (Cond.selects "EdgeWearModel" ⟨"EdgeWearModel", "take", "(I)I"⟩ ⟨"EdgeWearModel", "take", "(I)I"⟩) ∈ mBig := mBig_in 749 (by decide +kernel) rfl
set_option maxRecDepth 100000 in
theorem k_734 : (Cond.code ⟨"EdgeWearModel", "take", "(I)I"⟩ prog_8_method_15_code 4 (some FieldType.int)) ∈ mBig := mBig_in 750 (rfl) rfl
theorem k_735 : (Cond.methodLink "EdgeWearLaw" 134 ⟨"EdgeWearModel", "bring", "(I)Z"⟩) ∈ mBig := mBig_in 751 (by decide +kernel) rfl
theorem k_736 : (Cond.instanceMethod ⟨"EdgeWearModel", "bring", "(I)Z"⟩) ∈ mBig := mBig_in 752 (by decide +kernel) rfl
theorem k_737 : (Cond.selects "EdgeWearModel" ⟨"EdgeWearModel", "bring", "(I)Z"⟩ ⟨"EdgeWearModel", "bring", "(I)Z"⟩) ∈ mBig := mBig_in 753 (by decide +kernel) rfl
set_option maxRecDepth 100000 in
theorem k_738 : (Cond.code ⟨"EdgeWearModel", "bring", "(I)Z"⟩ prog_8_method_16_code 3 (some FieldType.boolean)) ∈ mBig := mBig_in 754 (rfl) rfl
theorem k_739 : (Cond.methodLink "EdgeWearLaw" 137 ⟨"EdgeWearModel", "life", "(II)I"⟩) ∈ mBig := mBig_in 755 (by decide +kernel) rfl
theorem k_740 : (Cond.instanceMethod ⟨"EdgeWearModel", "life", "(II)I"⟩) ∈ mBig := mBig_in 756 (by decide +kernel) rfl
theorem k_741 : (Cond.selects "EdgeWearModel" ⟨"EdgeWearModel", "life", "(II)I"⟩ ⟨"EdgeWearModel", "life", "(II)I"⟩) ∈ mBig := mBig_in 757 (by decide +kernel) rfl
set_option maxRecDepth 100000 in
theorem k_742 : (Cond.code ⟨"EdgeWearModel", "life", "(II)I"⟩ prog_8_method_17_code 3 (some FieldType.int)) ∈ mBig := mBig_in 758 (rfl) rfl
theorem k_743 : (Cond.constantLong "EdgeWearModel" 119 (1000 : Int64)) ∈ mBig := mBig_in 759 (by decide +kernel) rfl
theorem k_744 : (Cond.methodLink "EdgeWearLaw" 140 ⟨"EdgeWearModel", "cost", "(III)V"⟩) ∈ mBig := mBig_in 760 (by decide +kernel) rfl
theorem k_745 : (Cond.instanceMethod ⟨"EdgeWearModel", "cost", "(III)V"⟩) ∈ mBig := mBig_in 761 (by decide +kernel) rfl
theorem k_746 : (Cond.selects "EdgeWearModel" ⟨"EdgeWearModel", "cost", "(III)V"⟩ ⟨"EdgeWearModel", "cost", "(III)V"⟩) ∈ mBig := mBig_in 762 (by decide +kernel) rfl
set_option maxRecDepth 100000 in
theorem k_747 : (Cond.code ⟨"EdgeWearModel", "cost", "(III)V"⟩ prog_8_method_18_code 4 none) ∈ mBig := mBig_in 763 (rfl) rfl
theorem k_748 : (Cond.methodLink "EdgeWearLaw" 143 ⟨"EdgeWearModel", "change", "(I)I"⟩) ∈ mBig := mBig_in 764 (by decide +kernel) rfl
theorem k_749 : (Cond.instanceMethod ⟨"EdgeWearModel", "change", "(I)I"⟩) ∈ mBig := mBig_in 765 (by decide +kernel) rfl
theorem k_750 : (Cond.selects "EdgeWearModel" ⟨"EdgeWearModel", "change", "(I)I"⟩ ⟨"EdgeWearModel", "change", "(I)I"⟩) ∈ mBig := mBig_in 766 (by decide +kernel) rfl
set_option maxRecDepth 100000 in
theorem k_751 : (Cond.code ⟨"EdgeWearModel", "change", "(I)I"⟩ prog_8_method_22_code 4 (some FieldType.int)) ∈ mBig := mBig_in 767 (rfl) rfl
theorem k_752 : (Cond.methodLink "EdgeWearModel" 121 ⟨"EdgeWearModel", "greatest", "(I)I"⟩) ∈ mBig := mBig_in 768 (by decide +kernel) rfl
theorem k_754 : (Cond.instanceMethod ⟨"EdgeWearModel", "greatest", "(I)I"⟩) ∈ mBig := mBig_in 770 (by decide +kernel) rfl
set_option maxRecDepth 100000 in
theorem k_755 : (Cond.code ⟨"EdgeWearModel", "greatest", "(I)I"⟩ prog_8_method_21_code 5 (some FieldType.int)) ∈ mBig := mBig_in 771 (rfl) rfl
theorem k_756 : (Cond.methodLink "EdgeWearModel" 125 ⟨"EdgeWearModel", "costs", "(II)J"⟩) ∈ mBig := mBig_in 772 (by decide +kernel) rfl
theorem k_758 : (Cond.instanceMethod ⟨"EdgeWearModel", "costs", "(II)J"⟩) ∈ mBig := mBig_in 774 (by decide +kernel) rfl
set_option maxRecDepth 100000 in
theorem k_759 : (Cond.code ⟨"EdgeWearModel", "costs", "(II)J"⟩ prog_8_method_19_code 6 (some FieldType.long)) ∈ mBig := mBig_in 775 (rfl) rfl
theorem k_760 : (Cond.methodLink "EdgeWearModel" 129 ⟨"EdgeWearModel", "brings", "(II)J"⟩) ∈ mBig := mBig_in 776 (by decide +kernel) rfl
theorem k_762 : (Cond.instanceMethod ⟨"EdgeWearModel", "brings", "(II)J"⟩) ∈ mBig := mBig_in 778 (by decide +kernel) rfl
set_option maxRecDepth 100000 in
theorem k_763 : (Cond.code ⟨"EdgeWearModel", "brings", "(II)J"⟩ prog_8_method_20_code 7 (some FieldType.long)) ∈ mBig := mBig_in 779 (rfl) rfl
theorem k_764 : (Cond.methodLink "EdgeWearLaw" 146 ⟨"EdgeWearModel", "changed", "(III)J"⟩) ∈ mBig := mBig_in 780 (by decide +kernel) rfl
theorem k_765 : (Cond.instanceMethod ⟨"EdgeWearModel", "changed", "(III)J"⟩) ∈ mBig := mBig_in 781 (by decide +kernel) rfl
theorem k_766 : (Cond.selects "EdgeWearModel" ⟨"EdgeWearModel", "changed", "(III)J"⟩ ⟨"EdgeWearModel", "changed", "(III)J"⟩) ∈ mBig := mBig_in 782 (by decide +kernel) rfl
set_option maxRecDepth 100000 in
theorem k_767 : (Cond.code ⟨"EdgeWearModel", "changed", "(III)J"⟩ prog_8_method_23_code 4 (some FieldType.long)) ∈ mBig := mBig_in 783 (rfl) rfl
theorem k_768 : (Cond.methodLink "EdgeWearLaw" 149 ⟨"EdgeWearModel", "breaks", "(II)I"⟩) ∈ mBig := mBig_in 784 (by decide +kernel) rfl
theorem k_769 : (Cond.instanceMethod ⟨"EdgeWearModel", "breaks", "(II)I"⟩) ∈ mBig := mBig_in 785 (by decide +kernel) rfl
theorem k_770 : (Cond.selects "EdgeWearModel" ⟨"EdgeWearModel", "breaks", "(II)I"⟩ ⟨"EdgeWearModel", "breaks", "(II)I"⟩) ∈ mBig := mBig_in 786 (by decide +kernel) rfl
set_option maxRecDepth 100000 in
theorem k_771 : (Cond.code ⟨"EdgeWearModel", "breaks", "(II)I"⟩ prog_8_method_24_code 5 (some FieldType.int)) ∈ mBig := mBig_in 787 (rfl) rfl
theorem k_772 : (Cond.constantLong "EdgeWearModel" 132 (4 : Int64)) ∈ mBig := mBig_in 788 (by decide +kernel) rfl
theorem k_773 : (Cond.constantLong "EdgeWearModel" 134 (-7046029254386353131 : Int64)) ∈ mBig := mBig_in 789 (by decide +kernel) rfl
theorem k_774 : (Cond.constantLong "EdgeWearModel" 136 (-4658895280553007687 : Int64)) ∈ mBig := mBig_in 790 (by decide +kernel) rfl
theorem k_775 : (Cond.constantLong "EdgeWearModel" 138 (-7723592293110705685 : Int64)) ∈ mBig := mBig_in 791 (by decide +kernel) rfl
theorem k_776 : (Cond.methodLink "EdgeWearLaw" 153 ⟨"EdgeWearModel", "rules", "(IIII)V"⟩) ∈ mBig := mBig_in 792 (by decide +kernel) rfl
theorem k_777 : (Cond.instanceMethod ⟨"EdgeWearModel", "rules", "(IIII)V"⟩) ∈ mBig := mBig_in 793 (by decide +kernel) rfl
theorem k_778 : (Cond.selects "EdgeWearModel" ⟨"EdgeWearModel", "rules", "(IIII)V"⟩ ⟨"EdgeWearModel", "rules", "(IIII)V"⟩) ∈ mBig := mBig_in 794 (by decide +kernel) rfl
set_option maxRecDepth 100000 in
theorem k_779 : (Cond.code ⟨"EdgeWearModel", "rules", "(IIII)V"⟩ prog_8_method_25_code 6 none) ∈ mBig := mBig_in 795 (rfl) rfl
theorem k_780 : (Cond.constantLong "EdgeWearModel" 140 (2 : Int64)) ∈ mBig := mBig_in 796 (by decide +kernel) rfl
theorem k_781 : (Cond.constantLong "EdgeWearModel" 142 (12 : Int64)) ∈ mBig := mBig_in 797 (by decide +kernel) rfl
theorem k_782 : (Cond.methodLink "EdgeWearLaw" 156 ⟨"EdgeWearModel", "power", "(III)I"⟩) ∈ mBig := mBig_in 798 (by decide +kernel) rfl
theorem k_783 : (Cond.instanceMethod ⟨"EdgeWearModel", "power", "(III)I"⟩) ∈ mBig := mBig_in 799 (by decide +kernel) rfl
theorem k_784 : (Cond.selects "EdgeWearModel" ⟨"EdgeWearModel", "power", "(III)I"⟩ ⟨"EdgeWearModel", "power", "(III)I"⟩) ∈ mBig := mBig_in 800 (by decide +kernel) rfl
set_option maxRecDepth 100000 in
theorem k_785 : (Cond.code ⟨"EdgeWearModel", "power", "(III)I"⟩ prog_8_method_29_code 5 (some FieldType.int)) ∈ mBig := mBig_in 801 (rfl) rfl
theorem k_786 : (Cond.methodLink "EdgeWearModel" 151 ⟨"EdgeWearModel", "fired", "(I)I"⟩) ∈ mBig := mBig_in 802 (by decide +kernel) rfl
theorem k_788 : (Cond.instanceMethod ⟨"EdgeWearModel", "fired", "(I)I"⟩) ∈ mBig := mBig_in 804 (by decide +kernel) rfl
set_option maxRecDepth 100000 in
theorem k_789 : (Cond.code ⟨"EdgeWearModel", "fired", "(I)I"⟩ prog_8_method_28_code 5 (some FieldType.int)) ∈ mBig := mBig_in 805 (rfl) rfl
theorem k_790 : (Cond.methodLink "EdgeWearModel" 144 ⟨"EdgeWearModel", "reading", "(II)I"⟩) ∈ mBig := mBig_in 806 (by decide +kernel) rfl
theorem k_792 : (Cond.instanceMethod ⟨"EdgeWearModel", "reading", "(II)I"⟩) ∈ mBig := mBig_in 808 (by decide +kernel) rfl
set_option maxRecDepth 100000 in
theorem k_793 : (Cond.code ⟨"EdgeWearModel", "reading", "(II)I"⟩ prog_8_method_26_code 3 (some FieldType.int)) ∈ mBig := mBig_in 809 (rfl) rfl
theorem k_794 : (Cond.methodLink "EdgeWearModel" 148 ⟨"EdgeWearModel", "apart", "(II)I"⟩) ∈ mBig := mBig_in 810 (by decide +kernel) rfl
theorem k_795 : (Cond.static ⟨"EdgeWearModel", "apart", "(II)I"⟩) ∈ mBig := mBig_in 811 (by decide +kernel) rfl
set_option maxRecDepth 100000 in
theorem k_796 : (Cond.code ⟨"EdgeWearModel", "apart", "(II)I"⟩ prog_8_method_27_code 2 (some FieldType.int)) ∈ mBig := mBig_in 812 (rfl) rfl
theorem k_797 : (Cond.methodLink "EdgeWearLaw" 159 ⟨"EdgeWearModel", "order", "(II)Z"⟩) ∈ mBig := mBig_in 813 (by decide +kernel) rfl
theorem k_798 : (Cond.instanceMethod ⟨"EdgeWearModel", "order", "(II)Z"⟩) ∈ mBig := mBig_in 814 (by decide +kernel) rfl
theorem k_799 : (Cond.selects "EdgeWearModel" ⟨"EdgeWearModel", "order", "(II)Z"⟩ ⟨"EdgeWearModel", "order", "(II)Z"⟩) ∈ mBig := mBig_in 815 (by decide +kernel) rfl
set_option maxRecDepth 100000 in
theorem k_800 : (Cond.code ⟨"EdgeWearModel", "order", "(II)Z"⟩ prog_8_method_30_code 3 (some FieldType.boolean)) ∈ mBig := mBig_in 816 (rfl) rfl
theorem k_801 : (Cond.constantLong "EdgeWearModel" 154 (10000 : Int64)) ∈ mBig := mBig_in 817 (by decide +kernel) rfl
theorem k_802 : (Cond.methodLink "EdgeWearLaw" 162 ⟨"EdgeWearModel", "joined", "(II)I"⟩) ∈ mBig := mBig_in 818 (by decide +kernel) rfl
theorem k_803 : (Cond.instanceMethod ⟨"EdgeWearModel", "joined", "(II)I"⟩) ∈ mBig := mBig_in 819 (by decide +kernel) rfl
theorem k_804 : (Cond.selects "EdgeWearModel" ⟨"EdgeWearModel", "joined", "(II)I"⟩ ⟨"EdgeWearModel", "joined", "(II)I"⟩) ∈ mBig := mBig_in 820 (by decide +kernel) rfl
set_option maxRecDepth 100000 in
theorem k_805 : (Cond.code ⟨"EdgeWearModel", "joined", "(II)I"⟩ prog_8_method_32_code 6 (some FieldType.int)) ∈ mBig := mBig_in 821 (rfl) rfl
theorem k_806 : (Cond.methodLink "EdgeWearModel" 162 ⟨"EdgeWearModel", "isDue", "(III)Z"⟩) ∈ mBig := mBig_in 822 (by decide +kernel) rfl
theorem k_808 : (Cond.instanceMethod ⟨"EdgeWearModel", "isDue", "(III)Z"⟩) ∈ mBig := mBig_in 824 (by decide +kernel) rfl
set_option maxRecDepth 100000 in
theorem k_809 : (Cond.code ⟨"EdgeWearModel", "isDue", "(III)Z"⟩ prog_8_method_31_code 4 (some FieldType.boolean)) ∈ mBig := mBig_in 825 (rfl) rfl
theorem k_810 : (Cond.methodLink "EdgeWearLaw" 166 ⟨"EdgeWearModel", "open", "()I"⟩) ∈ mBig := mBig_in 826 (by decide +kernel) rfl
theorem k_811 : (Cond.instanceMethod ⟨"EdgeWearModel", "open", "()I"⟩) ∈ mBig := mBig_in 827 (by decide +kernel) rfl
theorem k_812 : (Cond.selects "EdgeWearModel" ⟨"EdgeWearModel", "open", "()I"⟩ ⟨"EdgeWearModel", "open", "()I"⟩) ∈ mBig := mBig_in 828 (by decide +kernel) rfl
set_option maxRecDepth 100000 in
theorem k_813 : (Cond.code ⟨"EdgeWearModel", "open", "()I"⟩ prog_8_method_33_code 1 (some FieldType.int)) ∈ mBig := mBig_in 829 (rfl) rfl
theorem k_814 : (Cond.methodLink "EdgeWearLaw" 169 ⟨"EdgeWearModel", "chip", "(IIII)I"⟩) ∈ mBig := mBig_in 830 (by decide +kernel) rfl
theorem k_815 : (Cond.instanceMethod ⟨"EdgeWearModel", "chip", "(IIII)I"⟩) ∈ mBig := mBig_in 831 (by decide +kernel) rfl
theorem k_816 : (Cond.selects "EdgeWearModel" ⟨"EdgeWearModel", "chip", "(IIII)I"⟩ ⟨"EdgeWearModel", "chip", "(IIII)I"⟩) ∈ mBig := mBig_in 832 (by decide +kernel) rfl
set_option maxRecDepth 100000 in
theorem k_817 : (Cond.code ⟨"EdgeWearModel", "chip", "(IIII)I"⟩ prog_8_method_34_code 16 (some FieldType.int)) ∈ mBig := mBig_in 833 (rfl) rfl
theorem k_818 : (Cond.constantLong "EdgeWearModel" 166 (1000001 : Int64)) ∈ mBig := mBig_in 834 (by decide +kernel) rfl
theorem k_819 : (Cond.constantLong "EdgeWearLaw" 108 (4294967295 : Int64)) ∈ mBig := mBig_in 835 (by decide +kernel) rfl
theorem ks_0 : (Cond.selects "EdgeWear" ⟨"EdgeWear", "sortAt", "(I)LEdgeWear$Sort;"⟩ ⟨"EdgeWear", "sortAt", "(I)LEdgeWear$Sort;"⟩) ∈ mBig := mBig_in 0 (by decide +kernel) rfl
theorem ks_1 : (Cond.selects "java/lang/Throwable" ⟨"java/lang/Throwable", "fillInStackTrace", "(I)Ljava/lang/Throwable;"⟩ ⟨"java/lang/Throwable", "fillInStackTrace", "(I)Ljava/lang/Throwable;"⟩) ∈ mBig := mBig_in 1 (by decide +kernel) rfl
theorem ks_2 : (Cond.selects "EdgeWear" ⟨"EdgeWear", "toolAt", "(I)LEdgeWear$Tool;"⟩ ⟨"EdgeWear", "toolAt", "(I)LEdgeWear$Tool;"⟩) ∈ mBig := mBig_in 2 (by decide +kernel) rfl
theorem ks_3 : (Cond.selects "EdgeWear" ⟨"EdgeWear", "nextSpare", "(I)I"⟩ ⟨"EdgeWear", "nextSpare", "(I)I"⟩) ∈ mBig := mBig_in 3 (by decide +kernel) rfl
theorem ks_4 : (Cond.selects "EdgeWear" ⟨"EdgeWear", "mixed", "(II)J"⟩ ⟨"EdgeWear", "mixed", "(II)J"⟩) ∈ mBig := mBig_in 4 (by decide +kernel) rfl
theorem ks_5 : (Cond.selects "EdgeWear" ⟨"EdgeWear", "isAnyDue", "(II)Z"⟩ ⟨"EdgeWear", "isAnyDue", "(II)Z"⟩) ∈ mBig := mBig_in 5 (by decide +kernel) rfl
theorem ks_6 : (Cond.selects "EdgeWear" ⟨"EdgeWear", "closeDue", "(II)I"⟩ ⟨"EdgeWear", "closeDue", "(II)I"⟩) ∈ mBig := mBig_in 6 (by decide +kernel) rfl
theorem ks_7 : (Cond.selects "EdgeWearModel" ⟨"EdgeWearModel", "noTool", "(I)Z"⟩ ⟨"EdgeWearModel", "noTool", "(I)Z"⟩) ∈ mBig := mBig_in 7 (by decide +kernel) rfl
theorem ks_8 : (Cond.selects "EdgeWearModel" ⟨"EdgeWearModel", "isBlunt", "(I)Z"⟩ ⟨"EdgeWearModel", "isBlunt", "(I)Z"⟩) ∈ mBig := mBig_in 8 (by decide +kernel) rfl
theorem ks_9 : (Cond.selects "EdgeWearModel" ⟨"EdgeWearModel", "isSpare", "(II)Z"⟩ ⟨"EdgeWearModel", "isSpare", "(II)Z"⟩) ∈ mBig := mBig_in 9 (by decide +kernel) rfl
theorem ks_10 : (Cond.selects "EdgeWearModel" ⟨"EdgeWearModel", "greatest", "(I)I"⟩ ⟨"EdgeWearModel", "greatest", "(I)I"⟩) ∈ mBig := mBig_in 10 (by decide +kernel) rfl
theorem ks_11 : (Cond.selects "EdgeWearModel" ⟨"EdgeWearModel", "costs", "(II)J"⟩ ⟨"EdgeWearModel", "costs", "(II)J"⟩) ∈ mBig := mBig_in 11 (by decide +kernel) rfl
theorem ks_12 : (Cond.selects "EdgeWearModel" ⟨"EdgeWearModel", "brings", "(II)J"⟩ ⟨"EdgeWearModel", "brings", "(II)J"⟩) ∈ mBig := mBig_in 12 (by decide +kernel) rfl
theorem ks_13 : (Cond.selects "EdgeWearModel" ⟨"EdgeWearModel", "fired", "(I)I"⟩ ⟨"EdgeWearModel", "fired", "(I)I"⟩) ∈ mBig := mBig_in 13 (by decide +kernel) rfl
theorem ks_14 : (Cond.selects "EdgeWearModel" ⟨"EdgeWearModel", "reading", "(II)I"⟩ ⟨"EdgeWearModel", "reading", "(II)I"⟩) ∈ mBig := mBig_in 14 (by decide +kernel) rfl
theorem ks_15 : (Cond.selects "EdgeWearModel" ⟨"EdgeWearModel", "isDue", "(III)Z"⟩ ⟨"EdgeWearModel", "isDue", "(III)Z"⟩) ∈ mBig := mBig_in 15 (by decide +kernel) rfl
end
section
abbrev mTys (dA : Nat → ClassId) : List (ClassId × FieldType) := [(dA 0, .int), (dA 1, .long), (dA 2, .boolean), (dA 3, .object "EdgeWear$Sort"), (dA 4, .object "EdgeWear$Tool"), (dA 5, .object "EdgeWear$Order")]
def mTx : List (String × Nat × String) := [("EdgeWear", 259, "no such sort"), ("EdgeWear", 52, "length is above 1000000, or least is not 0 .. length"), ("EdgeWear", 62, "there are 12 tools"), ("EdgeWear", 261, "no such kind or speed"), ("EdgeWear", 72, "rate is not 0 .. 1000000"), ("EdgeWear", 76, "limit is not 1 .. 10^12"), ("EdgeWear", 257, "no such tool"), ("EdgeWear", 86, "metres are not 0 .. 1000000"), ("EdgeWear", 92, "the tool is barred"), ("EdgeWear", 102, "off is not 1 .. 1000000"), ("EdgeWear", 133, "no such what"), ("EdgeWear", 146, "uses are not 1 .. 1000"), ("EdgeWear", 154, "there are 40 lives"), ("EdgeWear", 156, "a cost is not 0 .. 1000000"), ("EdgeWear", 164, "no lives"), ("EdgeWear", 169, "no such part"), ("EdgeWear", 171, "n is below 1"), ("EdgeWear", 176, "no lives, or n is above the greatest"), ("EdgeWear", 185, "k is below 0"), ("EdgeWear", 191, "high, middle or jump is not 0 .. 1000000"), ("EdgeWear", 193, "run is not 2 .. 12"), ("EdgeWear", 211, "reading is not 0 .. 1000000"), ("EdgeWear", 218, "minute is not above the one before"), ("EdgeWear", 228, "day is not 0 .. 10000"), ("EdgeWear", 245, "no such end"), ("EdgeWear", 247, "feed is not 0 .. 1000000"), ("EdgeWear", 249, "wide is not 1 .. 1000, or depth is not 0 .. wide")]
theorem gV {w1 cw : Cond} {own C : String} {idx : Nat} {y : MethodName} (h0 : cw ∈ mBig) (h1 : Cond.methodLink own idx y ∈ mBig) (h2 : Cond.instanceMethod y ∈ mBig) (h3 : Cond.selects C y y ∈ mBig) (h4 : Cond.initialized C ∈ mBig) : GoodIn (w1 :: mBig) (wsV own idx C y (cw :: mBig)) := by
  intro w h
  have h9 : w ∈ mBig := by
    simp only [wsV, List.mem_append, List.mem_cons, List.not_mem_nil, or_false] at h
    rcases h with (h | h | h | h) | h | h
    · rw [h]; exact h1
    · rw [h]; exact h2
    · rw [h]; exact h3
    · rw [h]; exact h4
    · rw [h]; exact h0
    · exact h
  exact ⟨List.mem_cons_of_mem _ h9, (mBig_good w h9).2⟩
theorem gS {w1 cw : Cond} {own : String} {idx : Nat} {y : MethodName} (h0 : cw ∈ mBig) (h1 : Cond.methodLink own idx y ∈ mBig) (h2 : Cond.static y ∈ mBig) (h4 : Cond.initialized y.cls ∈ mBig) : GoodIn (w1 :: mBig) (va_wsS own idx y (cw :: mBig)) := by
  intro w h
  have h9 : w ∈ mBig := by
    simp only [va_wsS, List.mem_append, List.mem_cons, List.not_mem_nil, or_false] at h
    rcases h with (h | h | h) | h | h
    · rw [h]; exact h1
    · rw [h]; exact h2
    · rw [h]; exact h4
    · rw [h]; exact h0
    · exact h
  exact ⟨List.mem_cons_of_mem _ h9, (mBig_good w h9).2⟩
theorem gI {w1 cw : Cond} (h0 : cw ∈ mBig) : GoodIn (w1 :: mBig) (cw :: mBig) := by
  intro w h
  have h9 : w ∈ mBig := by
    rcases List.mem_cons.mp h with h | h
    · rw [h]; exact h0
    · exact h
  exact ⟨List.mem_cons_of_mem _ h9, (mBig_good w h9).2⟩
theorem at0_IllegalArgumentException : ∀ w ∈ vx_atS "EdgeWear" 54 "java/lang/IllegalArgumentException" ["java/lang/RuntimeException", "java/lang/Exception"], w ∈ mBig ∨ w ∈ mYw := by decide +kernel
theorem good_IllegalArgumentException : ∀ w ∈ Cond.classLink "EdgeWear" 50 "java/lang/IllegalArgumentException" :: Cond.initialized "java/lang/IllegalArgumentException" :: vx_atS "EdgeWear" 54 "java/lang/IllegalArgumentException" ["java/lang/RuntimeException", "java/lang/Exception"], vx_ot w = true := by decide +kernel
theorem at_IllegalArgumentException {args : Array Value} {s : State} (hT : ∀ w ∈ mBig, w.before args s = true) (hy : mY s) : ∀ w ∈ vx_atS "EdgeWear" 54 "java/lang/IllegalArgumentException" ["java/lang/RuntimeException", "java/lang/Exception"], w.before args s = true := fun w h => (at0_IllegalArgumentException w h).elim (hT w) (fun h => hy.use h)
theorem at0_IllegalStateException : ∀ w ∈ vx_atS "EdgeWear" 64 "java/lang/IllegalStateException" ["java/lang/RuntimeException", "java/lang/Exception"], w ∈ mBig ∨ w ∈ mYw := by decide +kernel
theorem good_IllegalStateException : ∀ w ∈ Cond.classLink "EdgeWear" 60 "java/lang/IllegalStateException" :: Cond.initialized "java/lang/IllegalStateException" :: vx_atS "EdgeWear" 64 "java/lang/IllegalStateException" ["java/lang/RuntimeException", "java/lang/Exception"], vx_ot w = true := by decide +kernel
theorem at_IllegalStateException {args : Array Value} {s : State} (hT : ∀ w ∈ mBig, w.before args s = true) (hy : mY s) : ∀ w ∈ vx_atS "EdgeWear" 64 "java/lang/IllegalStateException" ["java/lang/RuntimeException", "java/lang/Exception"], w.before args s = true := fun w h => (at0_IllegalStateException w h).elim (hT w) (fun h => hy.use h)
theorem at0_IndexOutOfBoundsException : ∀ w ∈ vx_atS "EdgeWear" 135 "java/lang/IndexOutOfBoundsException" ["java/lang/RuntimeException", "java/lang/Exception"], w ∈ mBig ∨ w ∈ mYw := by decide +kernel
theorem good_IndexOutOfBoundsException : ∀ w ∈ Cond.classLink "EdgeWear" 131 "java/lang/IndexOutOfBoundsException" :: Cond.initialized "java/lang/IndexOutOfBoundsException" :: vx_atS "EdgeWear" 135 "java/lang/IndexOutOfBoundsException" ["java/lang/RuntimeException", "java/lang/Exception"], vx_ot w = true := by decide +kernel
theorem at_IndexOutOfBoundsException {args : Array Value} {s : State} (hT : ∀ w ∈ mBig, w.before args s = true) (hy : mY s) : ∀ w ∈ vx_atS "EdgeWear" 135 "java/lang/IndexOutOfBoundsException" ["java/lang/RuntimeException", "java/lang/Exception"], w.before args s = true := fun w h => (at0_IndexOutOfBoundsException w h).elim (hT w) (fun h => hy.use h)
theorem lg_gt (x y : Int64) : (0 < lg_cmp x y) ↔ y < x := by
  unfold lg_cmp
  by_cases h : x > y
  · simp [h]
  · by_cases h2 : x = y
    · simp [h2]
    · simp [h, h2]
theorem lg_le (x y : Int64) : (lg_cmp x y ≤ 0) ↔ ¬ y < x := by
  rw [← lg_gt]
  exact Int32.not_lt.symm
theorem lg_eq (x y : Int64) : (lg_cmp x y = 0) ↔ x = y := by
  unfold lg_cmp
  by_cases h : x > y
  · have : x ≠ y := fun e => by rw [e] at h; exact Int64.lt_irrefl h
    simp [h, this]
  · by_cases h2 : x = y
    · simp [h2]
    · simp [h, h2]
theorem lg_lt (x y : Int64) : (lg_cmp x y < 0) ↔ x < y := by
  unfold lg_cmp
  simp only [gt_iff_lt, Int64.lt_iff_toInt_lt, ← Int64.toInt_inj]
  repeat' split
  · rename_i h; constructor
    · intro q; exact absurd q (by decide)
    · intro q; omega
  · rename_i h h2; constructor
    · intro q; exact absurd q (by decide)
    · intro q; omega
  · rename_i h h2; constructor
    · intro q; omega
    · intro q; decide
end
section
theorem vpc (i : Int32) (n : Nat) (h : decide (¬ (i < 0 ∨ n ≤ i.toNatClampNeg)) = true) : vp_in i n := show ¬ (i < 0 ∨ n ≤ i.toNatClampNeg) from of_decide_eq_true h
/-- a boolean answer -/
def bv (rv : Int32) (P : Prop) : Prop := (rv = 1 ∧ P) ∨ (rv = 0 ∧ ¬ P)
theorem bv1 {P : Prop} (h : P) : bv 1 P := Or.inl ⟨rfl, h⟩
theorem bv0 {P : Prop} (h : ¬ P) : bv 0 P := Or.inr ⟨rfl, h⟩
theorem bv_ne {rv : Int32} {P : Prop} (h : bv rv P) (h0 : ¬ rv = 0) : P := by
  rcases h with h | h
  · exact h.2
  · exact absurd h.1 h0
theorem bv_eq {rv : Int32} {P : Prop} (h : bv rv P) (h0 : rv = 0) : ¬ P := by
  rcases h with h | h
  · rw [h.1] at h0; exact absurd h0 (by decide)
  · exact h.2
theorem bv_nar {rv : Int32} {P : Prop} (h : bv rv P) : narrow .boolean (.int rv) = .int rv := by
  rcases h with h | h <;> rw [h.1] <;> rfl
def eCost (f : Nat → Int32) (ch fa p : Int32) : Nat → Int64
  | 0 => 0
  | k + 1 => eCost f ch fa p k + (if f k < p then fa.toInt64 else ch.toInt64)
def eUses (f : Nat → Int32) (p : Int32) : Nat → Int64
  | 0 => 0
  | k + 1 => eUses f p k + (if p < f k then p else f k).toInt64
def eMax (f : Nat → Int32) : Nat → Int32
  | 0 => 0
  | k + 1 => if eMax f k < f k then f k else eMax f k
/-- life n is better than life b -/
def eBetter (f : Nat → Int32) (ch fa : Int32) (c : Nat) (n b : Int32) : Prop :=
  eCost f ch fa n c * eUses f b c < eCost f ch fa b c * eUses f n c ∨ (eCost f ch fa n c * eUses f b c = eCost f ch fa b c * eUses f n c ∧ b < n)
noncomputable def eBest (f : Nat → Int32) (ch fa : Int32) (c : Nat) : Nat → Int32
  | 0 => f 0
  | k + 1 => @ite Int32 (eBetter f ch fa c (f (k + 1)) (eBest f ch fa c k)) (Classical.propDecidable _) (f (k + 1)) (eBest f ch fa c k)
theorem eBest_pos {f : Nat → Int32} {ch fa : Int32} {c k : Nat} (h : eBetter f ch fa c (f (k + 1)) (eBest f ch fa c k)) : eBest f ch fa c (k + 1) = f (k + 1) := @if_pos _ (Classical.propDecidable _) h _ _ _
theorem eBest_neg {f : Nat → Int32} {ch fa : Int32} {c k : Nat} (h : ¬ eBetter f ch fa c (f (k + 1)) (eBest f ch fa c k)) : eBest f ch fa c (k + 1) = eBest f ch fa c k := @if_neg _ (Classical.propDecidable _) h _ _ _
end
section
set_option maxHeartbeats 4000000 in
set_option maxRecDepth 100000 in
theorem c_To_isBlunt (l : Launch) (D : va_G) (dA : Nat → ClassId) (ad : Nat → Nat) (G : mG) (sz : Nat) (r rs rr : Nat) (le ln : Int32) (we us gr : Int64) (ba ou : Int32) (rl : Nat) (nu lc : Int32) (lim : Int64) (ch fa : Int32) (hg : G r = some (.inr (4, [.ref (ad rs), .int le, .ref (ad rr), .int ln, .long we, .long us, .long gr, .int ba, .int ou]))) (hs : G rs = some (.inr (3, [.int nu, .ref (ad rl), .int lc, .long lim, .int ch, .int fa]))) : Met l y_To_isBlunt (.code y_To_isBlunt b_To_isBlunt 1 (some .boolean) :: mBig) ({ frames := 0, cells := 0, slots := 0, locals := 0 }) (mPc [.ref (ad r)] D mCl (mTys dA) mTx ad G sz) (mQi (fun (rv : Int32) (u : mU) => (rv = if lim < we then 1 else 0) ∧ u = (ad, G)) D mCl ad G sz) 0 0 (mA ad G sz) := by
  refine Met.ofW (cc := b_To_isBlunt) (maxL := 1) (ret := (some .boolean)) (by decide) rfl ?_
  intro p e s m args below meth c s₁ B hml hv
  obtain ⟨rfl, hsz, hw0, hC⟩ := hv
  have hx := B.exec
  have hb := B.bytes
  have hr := B.returns
  have hts := atoms_spec (ws := .code y_To_isBlunt b_To_isBlunt 1 (some .boolean) :: mBig) B.pre
  have hT : ∀ w ∈ mBig, w.before _ s = true := fun w h => hts w (List.mem_cons_of_mem _ h)
  have hown : s.vm.findClass "EdgeWear$Tool" = some m.cls := findClass_of_methodNamed B.named
  have hlocks := B.notSynchronized
  subst hsz
  have hm := mS.start hw0
  have hA : ∀ q : Nat, s.heap.size ≤ q → mA ad G s.heap.size q := fun q h => Or.inr h
  have hl := lv_entry ([.ref (ad r)]) (n := 1) (Nat.le_of_ble_eq_true rfl)
  rw [lg_entry_eq]
  generalize (lg_sl ([.ref (ad r)]) ++ List.replicate (1 - (lg_sl ([.ref (ad r)])).length) Slot.unset).toArray = ls at hl ⊢
  have hl : lv_has ls 1 [(0, .ref (ad r))] := hl
  refine lv_aload_n hx hb d_To_isBlunt_0 rfl (lv_at hl 0 rfl) ?_
  refine m_get (v := .long we) (C := R_To) (T := T_To) (N := 9) hx hb hT in_To hown hC.1 hm r rfl hg rfl 4 (by decide) (hT _ k_263) (fun _ h9 => h9) rfl d_To_isBlunt_1 ?_
  refine lv_aload_n hx hb d_To_isBlunt_4 rfl (lv_at hl 0 rfl) ?_
  refine m_get (v := .ref (ad rs)) (C := R_To) (T := T_To) (N := 9) hx hb hT in_To hown hC.1 hm r rfl hg rfl 0 (by decide) (hT _ k_256) (fun _ h9 => h9) rfl d_To_isBlunt_5 ?_
  refine m_get (v := .long lim) (C := R_So) (T := T_So) (N := 6) hx hb hT in_So hown hC.1 hm rs rfl hs rfl 3 (by decide) (hT _ k_40) (fun _ h9 => h9) rfl d_To_isBlunt_8 ?_
  refine W.lcmp hx hb d_To_isBlunt_11 ?_
  refine lv_if_le (tgt := 19) hx hb d_To_isBlunt_12 (by decide) (fun c_12 => ?_) (fun c_12 => ?_)
  · refine lv_iconst (v := 0) hx hb d_To_isBlunt_19 (by decide) ?_
    exact m_zret (v := 0) hx hb hr rfl hm (⟨by rw [if_neg ((lg_le _ _).mp c_12)], rfl⟩) d_To_isBlunt_20 hlocks
  · refine lv_iconst (v := 1) hx hb d_To_isBlunt_15 (by decide) ?_
    refine lv_goto (tgt := 20) hx hb d_To_isBlunt_16 (by decide) ?_
    exact m_zret (v := 1) hx hb hr rfl hm (⟨by rw [if_pos (Classical.not_not.mp (fun q => c_12 ((lg_le _ _).mpr q)))], rfl⟩) d_To_isBlunt_20 hlocks

set_option maxHeartbeats 4000000 in
set_option maxRecDepth 100000 in
theorem c_Or_isDue (l : Launch) (D : va_G) (dA : Nat → ClassId) (ad : Nat → Nat) (G : mG) (sz : Nat) (r : Nat) (so da dn : Int32) (p0 p1 : Int32) (hg : G r = some (.inr (0, [.int so, .int da, .int dn]))) : Met l y_Or_isDue (.code y_Or_isDue b_Or_isDue 3 (some .boolean) :: mBig) ({ frames := 0, cells := 0, slots := 0, locals := 0 }) (mPc [.ref (ad r), .int p0, .int p1] D mCl (mTys dA) mTx ad G sz) (mQi (fun (rv : Int32) (u : mU) => (rv = if dn = 0 ∧ so = p0 ∧ da < p1 then 1 else 0) ∧ u = (ad, G)) D mCl ad G sz) 0 0 (mA ad G sz) := by
  refine Met.ofW (cc := b_Or_isDue) (maxL := 3) (ret := (some .boolean)) (by decide) rfl ?_
  intro p e s m args below meth c s₁ B hml hv
  obtain ⟨rfl, hsz, hw0, hC⟩ := hv
  have hx := B.exec
  have hb := B.bytes
  have hr := B.returns
  have hts := atoms_spec (ws := .code y_Or_isDue b_Or_isDue 3 (some .boolean) :: mBig) B.pre
  have hT : ∀ w ∈ mBig, w.before _ s = true := fun w h => hts w (List.mem_cons_of_mem _ h)
  have hown : s.vm.findClass "EdgeWear$Order" = some m.cls := findClass_of_methodNamed B.named
  have hlocks := B.notSynchronized
  subst hsz
  have hm := mS.start hw0
  have hA : ∀ q : Nat, s.heap.size ≤ q → mA ad G s.heap.size q := fun q h => Or.inr h
  have hl := lv_entry ([.ref (ad r), .int p0, .int p1]) (n := 3) (Nat.le_of_ble_eq_true rfl)
  rw [lg_entry_eq]
  generalize (lg_sl ([.ref (ad r), .int p0, .int p1]) ++ List.replicate (3 - (lg_sl ([.ref (ad r), .int p0, .int p1])).length) Slot.unset).toArray = ls at hl ⊢
  have hl : lv_has ls 3 [(0, .ref (ad r)), (1, .int p0), (2, .int p1)] := hl
  refine lv_aload_n hx hb d_Or_isDue_0 rfl (lv_at hl 0 rfl) ?_
  refine m_get (v := .int dn) (C := R_Or) (T := T_Or) (N := 3) hx hb hT in_Or hown hC.1 hm r rfl hg rfl 2 (by decide) (hT _ k_541) (fun _ h9 => h9) rfl d_Or_isDue_1 ?_
  refine lv_if_ne (tgt := 27) hx hb d_Or_isDue_4 (by decide) (fun c_4 => ?_) (fun c_4 => ?_)
  · refine lv_iconst (v := 0) hx hb d_Or_isDue_27 (by decide) ?_
    exact m_zret (v := 0) hx hb hr rfl hm (⟨by simp_all [Int32.not_le, ← Int32.not_lt], rfl⟩) d_Or_isDue_28 hlocks
  · refine lv_aload_n hx hb d_Or_isDue_7 rfl (lv_at hl 0 rfl) ?_
    refine m_get (v := .int so) (C := R_Or) (T := T_Or) (N := 3) hx hb hT in_Or hown hC.1 hm r rfl hg rfl 0 (by decide) (hT _ k_539) (fun _ h9 => h9) rfl d_Or_isDue_8 ?_
    refine lv_iload_n hx hb d_Or_isDue_11 rfl (lv_at hl 1 rfl) ?_
    refine lv_icmp_ne (tgt := 27) hx hb d_Or_isDue_12 (by decide) (fun c_12 => ?_) (fun c_12 => ?_)
    · refine lv_iconst (v := 0) hx hb d_Or_isDue_27 (by decide) ?_
      exact m_zret (v := 0) hx hb hr rfl hm (⟨by simp_all [Int32.not_le, ← Int32.not_lt], rfl⟩) d_Or_isDue_28 hlocks
    · refine lv_aload_n hx hb d_Or_isDue_15 rfl (lv_at hl 0 rfl) ?_
      refine m_get (v := .int da) (C := R_Or) (T := T_Or) (N := 3) hx hb hT in_Or hown hC.1 hm r rfl hg rfl 1 (by decide) (hT _ k_540) (fun _ h9 => h9) rfl d_Or_isDue_16 ?_
      refine lv_iload_n hx hb d_Or_isDue_19 rfl (lv_at hl 2 rfl) ?_
      refine lv_icmp_ge (tgt := 27) hx hb d_Or_isDue_20 (by decide) (fun c_20 => ?_) (fun c_20 => ?_)
      · refine lv_iconst (v := 0) hx hb d_Or_isDue_27 (by decide) ?_
        exact m_zret (v := 0) hx hb hr rfl hm (⟨by simp_all [Int32.not_le, ← Int32.not_lt], rfl⟩) d_Or_isDue_28 hlocks
      · refine lv_iconst (v := 1) hx hb d_Or_isDue_23 (by decide) ?_
        refine lv_goto (tgt := 28) hx hb d_Or_isDue_24 (by decide) ?_
        exact m_zret (v := 1) hx hb hr rfl hm (⟨by simp_all [Int32.not_le, ← Int32.not_lt], rfl⟩) d_Or_isDue_28 hlocks

set_option maxHeartbeats 4000000 in
set_option maxRecDepth 100000 in
theorem c_To_isSpareOf (l : Launch) (D : va_G) (dA : Nat → ClassId) (ad : Nat → Nat) (G : mG) (sz : Nat) (r rs rr : Nat) (le ln : Int32) (we us gr : Int64) (ba ou : Int32) (rl : Nat) (nu lc : Int32) (lim : Int64) (ch fa : Int32) (p0 : Int32) (hg : G r = some (.inr (4, [.ref (ad rs), .int le, .ref (ad rr), .int ln, .long we, .long us, .long gr, .int ba, .int ou]))) (hs : G rs = some (.inr (3, [.int nu, .ref (ad rl), .int lc, .long lim, .int ch, .int fa]))) : Met l y_To_isSpareOf (.code y_To_isSpareOf b_To_isSpareOf 2 (some .boolean) :: mBig) ({ frames := 0, cells := 0, slots := 0, locals := 0 }) (mPc [.ref (ad r), .int p0] D mCl (mTys dA) mTx ad G sz) (mQi (fun (rv : Int32) (u : mU) => (rv = if nu = p0 ∧ ba = 0 ∧ ou = 0 ∧ we = 0 then 1 else 0) ∧ u = (ad, G)) D mCl ad G sz) 0 0 (mA ad G sz) := by
  refine Met.ofW (cc := b_To_isSpareOf) (maxL := 2) (ret := (some .boolean)) (by decide) rfl ?_
  intro p e s m args below meth c s₁ B hml hv
  obtain ⟨rfl, hsz, hw0, hC⟩ := hv
  have hx := B.exec
  have hb := B.bytes
  have hr := B.returns
  have hts := atoms_spec (ws := .code y_To_isSpareOf b_To_isSpareOf 2 (some .boolean) :: mBig) B.pre
  have hT : ∀ w ∈ mBig, w.before _ s = true := fun w h => hts w (List.mem_cons_of_mem _ h)
  have hown : s.vm.findClass "EdgeWear$Tool" = some m.cls := findClass_of_methodNamed B.named
  have hlocks := B.notSynchronized
  subst hsz
  have hm := mS.start hw0
  have hA : ∀ q : Nat, s.heap.size ≤ q → mA ad G s.heap.size q := fun q h => Or.inr h
  have hl := lv_entry ([.ref (ad r), .int p0]) (n := 2) (Nat.le_of_ble_eq_true rfl)
  rw [lg_entry_eq]
  generalize (lg_sl ([.ref (ad r), .int p0]) ++ List.replicate (2 - (lg_sl ([.ref (ad r), .int p0])).length) Slot.unset).toArray = ls at hl ⊢
  have hl : lv_has ls 2 [(0, .ref (ad r)), (1, .int p0)] := hl
  refine lv_aload_n hx hb d_To_isSpareOf_0 rfl (lv_at hl 0 rfl) ?_
  refine m_get (v := .ref (ad rs)) (C := R_To) (T := T_To) (N := 9) hx hb hT in_To hown hC.1 hm r rfl hg rfl 0 (by decide) (hT _ k_256) (fun _ h9 => h9) rfl d_To_isSpareOf_1 ?_
  refine m_get (v := .int nu) (C := R_So) (T := T_So) (N := 6) hx hb hT in_So hown hC.1 hm rs rfl hs rfl 0 (by decide) (hT _ k_33) (fun _ h9 => h9) rfl d_To_isSpareOf_4 ?_
  refine lv_iload_n hx hb d_To_isSpareOf_7 rfl (lv_at hl 1 rfl) ?_
  refine lv_icmp_ne (tgt := 38) hx hb d_To_isSpareOf_8 (by decide) (fun c_8 => ?_) (fun c_8 => ?_)
  · refine lv_iconst (v := 0) hx hb d_To_isSpareOf_38 (by decide) ?_
    exact m_zret (v := 0) hx hb hr rfl hm (⟨by simp_all [lg_eq], rfl⟩) d_To_isSpareOf_39 hlocks
  · refine lv_aload_n hx hb d_To_isSpareOf_11 rfl (lv_at hl 0 rfl) ?_
    refine m_get (v := .int ba) (C := R_To) (T := T_To) (N := 9) hx hb hT in_To hown hC.1 hm r rfl hg rfl 7 (by decide) (hT _ k_269) (fun _ h9 => h9) rfl d_To_isSpareOf_12 ?_
    refine lv_if_ne (tgt := 38) hx hb d_To_isSpareOf_15 (by decide) (fun c_15 => ?_) (fun c_15 => ?_)
    · refine lv_iconst (v := 0) hx hb d_To_isSpareOf_38 (by decide) ?_
      exact m_zret (v := 0) hx hb hr rfl hm (⟨by simp_all [lg_eq], rfl⟩) d_To_isSpareOf_39 hlocks
    · refine lv_aload_n hx hb d_To_isSpareOf_18 rfl (lv_at hl 0 rfl) ?_
      refine m_get (v := .int ou) (C := R_To) (T := T_To) (N := 9) hx hb hT in_To hown hC.1 hm r rfl hg rfl 8 (by decide) (hT _ k_271) (fun _ h9 => h9) rfl d_To_isSpareOf_19 ?_
      refine lv_if_ne (tgt := 38) hx hb d_To_isSpareOf_22 (by decide) (fun c_22 => ?_) (fun c_22 => ?_)
      · refine lv_iconst (v := 0) hx hb d_To_isSpareOf_38 (by decide) ?_
        exact m_zret (v := 0) hx hb hr rfl hm (⟨by simp_all [lg_eq], rfl⟩) d_To_isSpareOf_39 hlocks
      · refine lv_aload_n hx hb d_To_isSpareOf_25 rfl (lv_at hl 0 rfl) ?_
        refine m_get (v := .long we) (C := R_To) (T := T_To) (N := 9) hx hb hT in_To hown hC.1 hm r rfl hg rfl 4 (by decide) (hT _ k_263) (fun _ h9 => h9) rfl d_To_isSpareOf_26 ?_
        refine lv_lconst (v := 0) hx hb d_To_isSpareOf_29 (by decide) ?_
        refine W.lcmp hx hb d_To_isSpareOf_30 ?_
        refine lv_if_ne (tgt := 38) hx hb d_To_isSpareOf_31 (by decide) (fun c_31 => ?_) (fun c_31 => ?_)
        · refine lv_iconst (v := 0) hx hb d_To_isSpareOf_38 (by decide) ?_
          exact m_zret (v := 0) hx hb hr rfl hm (⟨by simp_all [lg_eq], rfl⟩) d_To_isSpareOf_39 hlocks
        · refine lv_iconst (v := 1) hx hb d_To_isSpareOf_34 (by decide) ?_
          refine lv_goto (tgt := 39) hx hb d_To_isSpareOf_35 (by decide) ?_
          exact m_zret (v := 1) hx hb hr rfl hm (⟨by simp_all [lg_eq], rfl⟩) d_To_isSpareOf_39 hlocks

set_option maxHeartbeats 4000000 in
set_option maxRecDepth 100000 in
theorem c_To_marks (l : Launch) (D : va_G) (dA : Nat → ClassId) (ad : Nat → Nat) (G : mG) (sz : Nat) (r rs rr : Nat) (le ln : Int32) (we us gr : Int64) (ba ou : Int32) (rl : Nat) (nu lc : Int32) (lim : Int64) (ch fa : Int32) (hg : G r = some (.inr (4, [.ref (ad rs), .int le, .ref (ad rr), .int ln, .long we, .long us, .long gr, .int ba, .int ou]))) (hs : G rs = some (.inr (3, [.int nu, .ref (ad rl), .int lc, .long lim, .int ch, .int fa]))) : Met l y_To_marks (.code y_To_marks b_To_marks 1 (some .int) :: mBig) ({ frames := 1, cells := 0, slots := 0, locals := 20 }) (mPc [.ref (ad r)] D mCl (mTys dA) mTx ad G sz) (mQi (fun (rv : Int32) (u : mU) => (rv = (if ba = 0 then 0 else 1) + (if lim < we then 2 else 0) + (if ou = 0 then 0 else 4)) ∧ u = (ad, G)) D mCl ad G sz) 0 0 (mA ad G sz) := by
  refine Met.ofW (cc := b_To_marks) (maxL := 1) (ret := (some .int)) (by decide) rfl ?_
  intro p e s m args below meth c s₁ B hml hv
  obtain ⟨rfl, hsz, hw0, hC⟩ := hv
  have hx := B.exec
  have hb := B.bytes
  have hr := B.returns
  have hts := atoms_spec (ws := .code y_To_marks b_To_marks 1 (some .int) :: mBig) B.pre
  have hT : ∀ w ∈ mBig, w.before _ s = true := fun w h => hts w (List.mem_cons_of_mem _ h)
  have hown : s.vm.findClass "EdgeWear$Tool" = some m.cls := findClass_of_methodNamed B.named
  have hlocks := B.notSynchronized
  subst hsz
  have hm := mS.start hw0
  have hA : ∀ q : Nat, s.heap.size ≤ q → mA ad G s.heap.size q := fun q h => Or.inr h
  have hl := lv_entry ([.ref (ad r)]) (n := 1) (Nat.le_of_ble_eq_true rfl)
  rw [lg_entry_eq]
  generalize (lg_sl ([.ref (ad r)]) ++ List.replicate (1 - (lg_sl ([.ref (ad r)])).length) Slot.unset).toArray = ls at hl ⊢
  have hl : lv_has ls 1 [(0, .ref (ad r))] := hl
  refine lv_aload_n hx hb d_To_marks_0 rfl (lv_at hl 0 rfl) ?_
  refine m_get (v := .int ba) (C := R_To) (T := T_To) (N := 9) hx hb hT in_To hown hC.1 hm r rfl hg rfl 7 (by decide) (hT _ k_269) (fun _ h9 => h9) rfl d_To_marks_1 ?_
  refine lv_if_eq (tgt := 11) hx hb d_To_marks_4 (by decide) (fun c_4 => ?_) (fun c_4 => ?_)
  · refine lv_iconst (v := 0) hx hb d_To_marks_11 (by decide) ?_
    refine lv_aload_n hx hb d_To_marks_12 rfl (lv_at hl 0 rfl) ?_
    refine m_roi (m_runV (As := []) (rest := [.int 0]) ⟨hx, hb, hml, hown, hts⟩ (c_To_isBlunt l D dA ad G s.heap.size r rs rr le ln we us gr ba ou rl nu lc lim ch fa hg hs) (cwV 0 hts (gV k_338 k_362 k_336 k_337 k_11) rfl rfl rfl (by decide +kernel) ⟨Nat.le_of_ble_eq_true rfl, Nat.le_of_ble_eq_true rfl⟩) hm hA hC r rfl hg rfl rfl rfl hl.1 rfl (Nat.le_of_ble_eq_true rfl) d_To_marks_13 ⟨Nat.le_of_ble_eq_true rfl, Nat.le_of_ble_eq_true rfl⟩) hm hA (fun r_1 H locs w_2 hm => ?_)
    refine lv_if_eq (tgt := 23) hx hb d_To_marks_16 (by decide) (fun c_16 => ?_) (fun c_16 => ?_)
    · refine lv_iconst (v := 0) hx hb d_To_marks_23 (by decide) ?_
      refine lv_iadd hx hb d_To_marks_24 ?_
      refine lv_topi (fun x_3 ex_3 => ?_)
      refine lv_aload_n hx hb d_To_marks_25 rfl (lv_at hl 0 rfl) ?_
      refine m_get (v := .int ou) (C := R_To) (T := T_To) (N := 9) hx hb hT in_To hown hC.1 hm r rfl hg rfl 8 (by decide) (hT _ k_271) (fun _ h9 => h9) rfl d_To_marks_26 ?_
      refine lv_if_eq (tgt := 36) hx hb d_To_marks_29 (by decide) (fun c_29 => ?_) (fun c_29 => ?_)
      · refine lv_iconst (v := 0) hx hb d_To_marks_36 (by decide) ?_
        refine lv_iadd hx hb d_To_marks_37 ?_
        refine lv_topi (fun x_4 ex_4 => ?_)
        exact m_iret (v := x_4) hx hb hr hm (⟨by
          have q := w_2
          by_cases hq : lim < we
          · rw [if_pos hq] at q ⊢
            simp_all
          · rw [if_neg hq] at q ⊢
            simp_all, rfl⟩) d_To_marks_38 hlocks
      · refine lv_iconst (v := 4) hx hb d_To_marks_32 (by decide) ?_
        refine lv_goto (tgt := 37) hx hb d_To_marks_33 (by decide) ?_
        refine lv_iadd hx hb d_To_marks_37 ?_
        refine lv_topi (fun x_5 ex_5 => ?_)
        exact m_iret (v := x_5) hx hb hr hm (⟨by
          have q := w_2
          by_cases hq : lim < we
          · rw [if_pos hq] at q ⊢
            simp_all
          · rw [if_neg hq] at q ⊢
            simp_all, rfl⟩) d_To_marks_38 hlocks
    · refine lv_iconst (v := 2) hx hb d_To_marks_19 (by decide) ?_
      refine lv_goto (tgt := 24) hx hb d_To_marks_20 (by decide) ?_
      refine lv_iadd hx hb d_To_marks_24 ?_
      refine lv_topi (fun x_6 ex_6 => ?_)
      refine lv_aload_n hx hb d_To_marks_25 rfl (lv_at hl 0 rfl) ?_
      refine m_get (v := .int ou) (C := R_To) (T := T_To) (N := 9) hx hb hT in_To hown hC.1 hm r rfl hg rfl 8 (by decide) (hT _ k_271) (fun _ h9 => h9) rfl d_To_marks_26 ?_
      refine lv_if_eq (tgt := 36) hx hb d_To_marks_29 (by decide) (fun c_29 => ?_) (fun c_29 => ?_)
      · refine lv_iconst (v := 0) hx hb d_To_marks_36 (by decide) ?_
        refine lv_iadd hx hb d_To_marks_37 ?_
        refine lv_topi (fun x_7 ex_7 => ?_)
        exact m_iret (v := x_7) hx hb hr hm (⟨by
          have q := w_2
          by_cases hq : lim < we
          · rw [if_pos hq] at q ⊢
            simp_all
          · rw [if_neg hq] at q ⊢
            simp_all, rfl⟩) d_To_marks_38 hlocks
      · refine lv_iconst (v := 4) hx hb d_To_marks_32 (by decide) ?_
        refine lv_goto (tgt := 37) hx hb d_To_marks_33 (by decide) ?_
        refine lv_iadd hx hb d_To_marks_37 ?_
        refine lv_topi (fun x_8 ex_8 => ?_)
        exact m_iret (v := x_8) hx hb hr hm (⟨by
          have q := w_2
          by_cases hq : lim < we
          · rw [if_pos hq] at q ⊢
            simp_all
          · rw [if_neg hq] at q ⊢
            simp_all, rfl⟩) d_To_marks_38 hlocks
  · refine lv_iconst (v := 1) hx hb d_To_marks_7 (by decide) ?_
    refine lv_goto (tgt := 12) hx hb d_To_marks_8 (by decide) ?_
    refine lv_aload_n hx hb d_To_marks_12 rfl (lv_at hl 0 rfl) ?_
    refine m_roi (m_runV (As := []) (rest := [.int 1]) ⟨hx, hb, hml, hown, hts⟩ (c_To_isBlunt l D dA ad G s.heap.size r rs rr le ln we us gr ba ou rl nu lc lim ch fa hg hs) (cwV 0 hts (gV k_338 k_362 k_336 k_337 k_11) rfl rfl rfl (by decide +kernel) ⟨Nat.le_of_ble_eq_true rfl, Nat.le_of_ble_eq_true rfl⟩) hm hA hC r rfl hg rfl rfl rfl hl.1 rfl (Nat.le_of_ble_eq_true rfl) d_To_marks_13 ⟨Nat.le_of_ble_eq_true rfl, Nat.le_of_ble_eq_true rfl⟩) hm hA (fun r_9 H locs w_10 hm => ?_)
    refine lv_if_eq (tgt := 23) hx hb d_To_marks_16 (by decide) (fun c_16 => ?_) (fun c_16 => ?_)
    · refine lv_iconst (v := 0) hx hb d_To_marks_23 (by decide) ?_
      refine lv_iadd hx hb d_To_marks_24 ?_
      refine lv_topi (fun x_11 ex_11 => ?_)
      refine lv_aload_n hx hb d_To_marks_25 rfl (lv_at hl 0 rfl) ?_
      refine m_get (v := .int ou) (C := R_To) (T := T_To) (N := 9) hx hb hT in_To hown hC.1 hm r rfl hg rfl 8 (by decide) (hT _ k_271) (fun _ h9 => h9) rfl d_To_marks_26 ?_
      refine lv_if_eq (tgt := 36) hx hb d_To_marks_29 (by decide) (fun c_29 => ?_) (fun c_29 => ?_)
      · refine lv_iconst (v := 0) hx hb d_To_marks_36 (by decide) ?_
        refine lv_iadd hx hb d_To_marks_37 ?_
        refine lv_topi (fun x_12 ex_12 => ?_)
        exact m_iret (v := x_12) hx hb hr hm (⟨by
          have q := w_10
          by_cases hq : lim < we
          · rw [if_pos hq] at q ⊢
            simp_all
          · rw [if_neg hq] at q ⊢
            simp_all, rfl⟩) d_To_marks_38 hlocks
      · refine lv_iconst (v := 4) hx hb d_To_marks_32 (by decide) ?_
        refine lv_goto (tgt := 37) hx hb d_To_marks_33 (by decide) ?_
        refine lv_iadd hx hb d_To_marks_37 ?_
        refine lv_topi (fun x_13 ex_13 => ?_)
        exact m_iret (v := x_13) hx hb hr hm (⟨by
          have q := w_10
          by_cases hq : lim < we
          · rw [if_pos hq] at q ⊢
            simp_all
          · rw [if_neg hq] at q ⊢
            simp_all, rfl⟩) d_To_marks_38 hlocks
    · refine lv_iconst (v := 2) hx hb d_To_marks_19 (by decide) ?_
      refine lv_goto (tgt := 24) hx hb d_To_marks_20 (by decide) ?_
      refine lv_iadd hx hb d_To_marks_24 ?_
      refine lv_topi (fun x_14 ex_14 => ?_)
      refine lv_aload_n hx hb d_To_marks_25 rfl (lv_at hl 0 rfl) ?_
      refine m_get (v := .int ou) (C := R_To) (T := T_To) (N := 9) hx hb hT in_To hown hC.1 hm r rfl hg rfl 8 (by decide) (hT _ k_271) (fun _ h9 => h9) rfl d_To_marks_26 ?_
      refine lv_if_eq (tgt := 36) hx hb d_To_marks_29 (by decide) (fun c_29 => ?_) (fun c_29 => ?_)
      · refine lv_iconst (v := 0) hx hb d_To_marks_36 (by decide) ?_
        refine lv_iadd hx hb d_To_marks_37 ?_
        refine lv_topi (fun x_15 ex_15 => ?_)
        exact m_iret (v := x_15) hx hb hr hm (⟨by
          have q := w_10
          by_cases hq : lim < we
          · rw [if_pos hq] at q ⊢
            simp_all
          · rw [if_neg hq] at q ⊢
            simp_all, rfl⟩) d_To_marks_38 hlocks
      · refine lv_iconst (v := 4) hx hb d_To_marks_32 (by decide) ?_
        refine lv_goto (tgt := 37) hx hb d_To_marks_33 (by decide) ?_
        refine lv_iadd hx hb d_To_marks_37 ?_
        refine lv_topi (fun x_16 ex_16 => ?_)
        exact m_iret (v := x_16) hx hb hr hm (⟨by
          have q := w_10
          by_cases hq : lim < we
          · rw [if_pos hq] at q ⊢
            simp_all
          · rw [if_neg hq] at q ⊢
            simp_all, rfl⟩) d_To_marks_38 hlocks

set_option maxHeartbeats 4000000 in
set_option maxRecDepth 100000 in
theorem c_To_wearBy (l : Launch) (D : va_G) (dA : Nat → ClassId) (ad : Nat → Nat) (G : mG) (sz : Nat) (r rs rr : Nat) (le ln : Int32) (we us gr : Int64) (ba ou : Int32) (p0 : Int64) (hg : G r = some (.inr (4, [.ref (ad rs), .int le, .ref (ad rr), .int ln, .long we, .long us, .long gr, .int ba, .int ou]))) : Met l y_To_wearBy (.code y_To_wearBy b_To_wearBy 3 none :: mBig) ({ frames := 1, cells := 0, slots := 0, locals := 16 }) (mPc [.ref (ad r), .long p0] D mCl (mTys dA) mTx ad G sz) (mQv (fun (u : mU) => (u = (ad, va_up G r (some (.inr (4, [.ref (ad rs), .int le, .ref (ad rr), .int ln, .long (if 1000000000000000 < we + p0 then 1000000000000000 else we + p0), .long (us + 1), .long gr, .int ba, .int ou])))))) D mCl ad G sz) 0 0 (mA ad G sz) := by
  refine Met.ofW (cc := b_To_wearBy) (maxL := 3) (ret := none) (by decide) rfl ?_
  intro p e s m args below meth c s₁ B hml hv
  obtain ⟨rfl, hsz, hw0, hC⟩ := hv
  have hx := B.exec
  have hb := B.bytes
  have hr := B.returns
  have hts := atoms_spec (ws := .code y_To_wearBy b_To_wearBy 3 none :: mBig) B.pre
  have hT : ∀ w ∈ mBig, w.before _ s = true := fun w h => hts w (List.mem_cons_of_mem _ h)
  have hown : s.vm.findClass "EdgeWear$Tool" = some m.cls := findClass_of_methodNamed B.named
  have hlocks := B.notSynchronized
  subst hsz
  have hm := mS.start hw0
  have hA : ∀ q : Nat, s.heap.size ≤ q → mA ad G s.heap.size q := fun q h => Or.inr h
  have hl := lv_entry ([.ref (ad r), .long p0]) (n := 3) (Nat.le_of_ble_eq_true rfl)
  rw [lg_entry_eq]
  generalize (lg_sl ([.ref (ad r), .long p0]) ++ List.replicate (3 - (lg_sl ([.ref (ad r), .long p0])).length) Slot.unset).toArray = ls at hl ⊢
  have hl : lv_has ls 3 [(0, .ref (ad r)), (1, .long p0)] := hl
  refine lv_aload_n hx hb d_To_wearBy_0 rfl (lv_at hl 0 rfl) ?_
  refine lv_aload_n hx hb d_To_wearBy_1 rfl (lv_at hl 0 rfl) ?_
  refine m_get (v := .long we) (C := R_To) (T := T_To) (N := 9) hx hb hT in_To hown hC.1 hm r rfl hg rfl 4 (by decide) (hT _ k_263) (fun _ h9 => h9) rfl d_To_wearBy_2 ?_
  refine lv_lload_n hx hb d_To_wearBy_5 rfl (lv_at hl 1 rfl) ?_
  refine lv_ladd hx hb d_To_wearBy_6 ?_
  refine lv_topl (fun x_1 ex_1 => ?_)
  refine lv_ldc2 (v := 1000000000000000) hx hb hown (hT _ k_331) d_To_wearBy_7 ?_
  refine va_mmin_long hx hb (by rw [hml]; exact hl.1.symm) hown (hT _ k_332) (hT _ k_333) (hT _ k_13) (hT _ k_334) (Nat.le_of_ble_eq_true rfl) (Nat.le_of_ble_eq_true rfl) (Nat.zero_le _) (Nat.zero_le _) d_To_wearBy_10 ?_
  refine lv_topl (fun x_2 ex_2 => ?_)
  refine m_put (v := .long x_2) (ty := .long) (C := R_To) (T := T_To) (N := 9) hx hb hT in_To t_To tok_To nm_To hown hC.1 hm r rfl hg rfl 4 (by decide) (hT _ k_263) (fun _ h9 => h9) rfl (by decide +kernel) rfl rfl (Nat.le_of_ble_eq_true rfl) d_To_wearBy_13 (fun H locs hm => ?_)
  obtain ⟨G_3, eG_3⟩ : ∃ z : mG, z = va_up G r (some (.inr (4, [.ref (ad rs), .int le, .ref (ad rr), .int ln, .long x_2, .long us, .long gr, .int ba, .int ou]))) := ⟨_, rfl⟩
  have hm : mS D mCl (mA ad G s.heap.size) s.heap ad G_3 H locs := by rw [eG_3]; exact hm
  have g_4 : G_3 r = some (.inr (4, [.ref (ad rs), .int le, .ref (ad rr), .int ln, .long x_2, .long us, .long gr, .int ba, .int ou])) := by rw [eG_3, va_up_self]
  refine lv_aload_n hx hb d_To_wearBy_16 rfl (lv_at hl 0 rfl) ?_
  refine lv_dup hx hb d_To_wearBy_17 rfl ?_
  refine m_get (v := .long us) (C := R_To) (T := T_To) (N := 9) hx hb hT in_To hown hC.1 hm r rfl g_4 rfl 5 (by decide) (hT _ k_265) (fun _ h9 => h9) rfl d_To_wearBy_18 ?_
  refine lv_lconst (v := 1) hx hb d_To_wearBy_21 (by decide) ?_
  refine lv_ladd hx hb d_To_wearBy_22 ?_
  refine lv_topl (fun x_5 ex_5 => ?_)
  refine m_put (v := .long x_5) (ty := .long) (C := R_To) (T := T_To) (N := 9) hx hb hT in_To t_To tok_To nm_To hown hC.1 hm r rfl g_4 rfl 5 (by decide) (hT _ k_265) (fun _ h9 => h9) rfl (by decide +kernel) rfl rfl (Nat.le_of_ble_eq_true rfl) d_To_wearBy_23 (fun H locs hm => ?_)
  obtain ⟨G_6, eG_6⟩ : ∃ z : mG, z = va_up G_3 r (some (.inr (4, [.ref (ad rs), .int le, .ref (ad rr), .int ln, .long x_2, .long x_5, .long gr, .int ba, .int ou]))) := ⟨_, rfl⟩
  have hm : mS D mCl (mA ad G s.heap.size) s.heap ad G_6 H locs := by rw [eG_6]; exact hm
  have g_7 : G_6 r = some (.inr (4, [.ref (ad rs), .int le, .ref (ad rr), .int ln, .long x_2, .long x_5, .long gr, .int ba, .int ou])) := by rw [eG_6, va_up_self]
  exact m_vret hx hb hr hm (by simp only [eG_6, ex_5, eG_3, ex_2, ex_1, bx_uu]) d_To_wearBy_26 hlocks

set_option maxHeartbeats 4000000 in
set_option maxRecDepth 100000 in
theorem c_To_grindOrBar (l : Launch) (D : va_G) (dA : Nat → ClassId) (ad : Nat → Nat) (G : mG) (sz : Nat) (r rs rr : Nat) (le ln : Int32) (we us gr : Int64) (ba ou : Int32) (p0 : Int32) (hg : G r = some (.inr (4, [.ref (ad rs), .int le, .ref (ad rr), .int ln, .long we, .long us, .long gr, .int ba, .int ou]))) : Met l y_To_grindOrBar (.code y_To_grindOrBar b_To_grindOrBar 2 (some .boolean) :: mBig) ({ frames := 0, cells := 0, slots := 0, locals := 0 }) (mPc [.ref (ad r), .int p0] D mCl (mTys dA) mTx ad G sz) (mQi (fun (rv : Int32) (u : mU) => (if ln - p0 < le then rv = 0 ∧ u = (ad, va_up G r (some (.inr (4, [.ref (ad rs), .int le, .ref (ad rr), .int ln, .long we, .long us, .long gr, .int 1, .int ou])))) else rv = 1 ∧ u = (ad, va_up G r (some (.inr (4, [.ref (ad rs), .int le, .ref (ad rr), .int (ln - p0), .long 0, .long us, .long (gr + 1), .int ba, .int ou])))))) D mCl ad G sz) 0 0 (mA ad G sz) := by
  refine Met.ofW (cc := b_To_grindOrBar) (maxL := 2) (ret := (some .boolean)) (by decide) rfl ?_
  intro p e s m args below meth c s₁ B hml hv
  obtain ⟨rfl, hsz, hw0, hC⟩ := hv
  have hx := B.exec
  have hb := B.bytes
  have hr := B.returns
  have hts := atoms_spec (ws := .code y_To_grindOrBar b_To_grindOrBar 2 (some .boolean) :: mBig) B.pre
  have hT : ∀ w ∈ mBig, w.before _ s = true := fun w h => hts w (List.mem_cons_of_mem _ h)
  have hown : s.vm.findClass "EdgeWear$Tool" = some m.cls := findClass_of_methodNamed B.named
  have hlocks := B.notSynchronized
  subst hsz
  have hm := mS.start hw0
  have hA : ∀ q : Nat, s.heap.size ≤ q → mA ad G s.heap.size q := fun q h => Or.inr h
  have hl := lv_entry ([.ref (ad r), .int p0]) (n := 2) (Nat.le_of_ble_eq_true rfl)
  rw [lg_entry_eq]
  generalize (lg_sl ([.ref (ad r), .int p0]) ++ List.replicate (2 - (lg_sl ([.ref (ad r), .int p0])).length) Slot.unset).toArray = ls at hl ⊢
  have hl : lv_has ls 2 [(0, .ref (ad r)), (1, .int p0)] := hl
  refine lv_aload_n hx hb d_To_grindOrBar_0 rfl (lv_at hl 0 rfl) ?_
  refine m_get (v := .int ln) (C := R_To) (T := T_To) (N := 9) hx hb hT in_To hown hC.1 hm r rfl hg rfl 3 (by decide) (hT _ k_261) (fun _ h9 => h9) rfl d_To_grindOrBar_1 ?_
  refine lv_iload_n hx hb d_To_grindOrBar_4 rfl (lv_at hl 1 rfl) ?_
  refine lv_isub hx hb d_To_grindOrBar_5 ?_
  refine lv_topi (fun x_1 ex_1 => ?_)
  refine lv_aload_n hx hb d_To_grindOrBar_6 rfl (lv_at hl 0 rfl) ?_
  refine m_get (v := .int le) (C := R_To) (T := T_To) (N := 9) hx hb hT in_To hown hC.1 hm r rfl hg rfl 1 (by decide) (hT _ k_258) (fun _ h9 => h9) rfl d_To_grindOrBar_7 ?_
  refine lv_icmp_ge (tgt := 20) hx hb d_To_grindOrBar_10 (by decide) (fun c_10 => ?_) (fun c_10 => ?_)
  · refine lv_aload_n hx hb d_To_grindOrBar_20 rfl (lv_at hl 0 rfl) ?_
    refine lv_dup hx hb d_To_grindOrBar_21 rfl ?_
    refine m_get (v := .int ln) (C := R_To) (T := T_To) (N := 9) hx hb hT in_To hown hC.1 hm r rfl hg rfl 3 (by decide) (hT _ k_261) (fun _ h9 => h9) rfl d_To_grindOrBar_22 ?_
    refine lv_iload_n hx hb d_To_grindOrBar_25 rfl (lv_at hl 1 rfl) ?_
    refine lv_isub hx hb d_To_grindOrBar_26 ?_
    refine lv_topi (fun x_2 ex_2 => ?_)
    refine m_put (v := .int x_2) (ty := .int) (C := R_To) (T := T_To) (N := 9) hx hb hT in_To t_To tok_To nm_To hown hC.1 hm r rfl hg rfl 3 (by decide) (hT _ k_261) (fun _ h9 => h9) rfl (by decide +kernel) rfl rfl (Nat.le_of_ble_eq_true rfl) d_To_grindOrBar_27 (fun H locs hm => ?_)
    obtain ⟨G_3, eG_3⟩ : ∃ z : mG, z = va_up G r (some (.inr (4, [.ref (ad rs), .int le, .ref (ad rr), .int x_2, .long we, .long us, .long gr, .int ba, .int ou]))) := ⟨_, rfl⟩
    have hm : mS D mCl (mA ad G s.heap.size) s.heap ad G_3 H locs := by rw [eG_3]; exact hm
    have g_4 : G_3 r = some (.inr (4, [.ref (ad rs), .int le, .ref (ad rr), .int x_2, .long we, .long us, .long gr, .int ba, .int ou])) := by rw [eG_3, va_up_self]
    refine lv_aload_n hx hb d_To_grindOrBar_30 rfl (lv_at hl 0 rfl) ?_
    refine lv_lconst (v := 0) hx hb d_To_grindOrBar_31 (by decide) ?_
    refine m_put (v := .long 0) (ty := .long) (C := R_To) (T := T_To) (N := 9) hx hb hT in_To t_To tok_To nm_To hown hC.1 hm r rfl g_4 rfl 4 (by decide) (hT _ k_263) (fun _ h9 => h9) rfl (by decide +kernel) rfl rfl (Nat.le_of_ble_eq_true rfl) d_To_grindOrBar_32 (fun H locs hm => ?_)
    obtain ⟨G_5, eG_5⟩ : ∃ z : mG, z = va_up G_3 r (some (.inr (4, [.ref (ad rs), .int le, .ref (ad rr), .int x_2, .long 0, .long us, .long gr, .int ba, .int ou]))) := ⟨_, rfl⟩
    have hm : mS D mCl (mA ad G s.heap.size) s.heap ad G_5 H locs := by rw [eG_5]; exact hm
    have g_6 : G_5 r = some (.inr (4, [.ref (ad rs), .int le, .ref (ad rr), .int x_2, .long 0, .long us, .long gr, .int ba, .int ou])) := by rw [eG_5, va_up_self]
    refine lv_aload_n hx hb d_To_grindOrBar_35 rfl (lv_at hl 0 rfl) ?_
    refine lv_dup hx hb d_To_grindOrBar_36 rfl ?_
    refine m_get (v := .long gr) (C := R_To) (T := T_To) (N := 9) hx hb hT in_To hown hC.1 hm r rfl g_6 rfl 6 (by decide) (hT _ k_267) (fun _ h9 => h9) rfl d_To_grindOrBar_37 ?_
    refine lv_lconst (v := 1) hx hb d_To_grindOrBar_40 (by decide) ?_
    refine lv_ladd hx hb d_To_grindOrBar_41 ?_
    refine lv_topl (fun x_7 ex_7 => ?_)
    refine m_put (v := .long x_7) (ty := .long) (C := R_To) (T := T_To) (N := 9) hx hb hT in_To t_To tok_To nm_To hown hC.1 hm r rfl g_6 rfl 6 (by decide) (hT _ k_267) (fun _ h9 => h9) rfl (by decide +kernel) rfl rfl (Nat.le_of_ble_eq_true rfl) d_To_grindOrBar_42 (fun H locs hm => ?_)
    obtain ⟨G_8, eG_8⟩ : ∃ z : mG, z = va_up G_5 r (some (.inr (4, [.ref (ad rs), .int le, .ref (ad rr), .int x_2, .long 0, .long us, .long x_7, .int ba, .int ou]))) := ⟨_, rfl⟩
    have hm : mS D mCl (mA ad G s.heap.size) s.heap ad G_8 H locs := by rw [eG_8]; exact hm
    have g_9 : G_8 r = some (.inr (4, [.ref (ad rs), .int le, .ref (ad rr), .int x_2, .long 0, .long us, .long x_7, .int ba, .int ou])) := by rw [eG_8, va_up_self]
    refine lv_iconst (v := 1) hx hb d_To_grindOrBar_45 (by decide) ?_
    exact m_zret (v := 1) hx hb hr rfl hm (by rw [if_neg (by rw [← ex_1]; exact Int32.not_lt.mpr c_10)]; exact ⟨rfl, by simp only [eG_8, ex_7, eG_5, eG_3, ex_2, ex_1, bx_uu]⟩) d_To_grindOrBar_46 hlocks
  · refine lv_aload_n hx hb d_To_grindOrBar_13 rfl (lv_at hl 0 rfl) ?_
    refine lv_iconst (v := 1) hx hb d_To_grindOrBar_14 (by decide) ?_
    refine m_put (v := .int 1) (ty := .boolean) (C := R_To) (T := T_To) (N := 9) hx hb hT in_To t_To tok_To nm_To hown hC.1 hm r rfl hg rfl 7 (by decide) (hT _ k_269) (fun _ h9 => h9) rfl (by decide +kernel) rfl rfl (Nat.le_of_ble_eq_true rfl) d_To_grindOrBar_15 (fun H locs hm => ?_)
    obtain ⟨G_10, eG_10⟩ : ∃ z : mG, z = va_up G r (some (.inr (4, [.ref (ad rs), .int le, .ref (ad rr), .int ln, .long we, .long us, .long gr, .int 1, .int ou]))) := ⟨_, rfl⟩
    have hm : mS D mCl (mA ad G s.heap.size) s.heap ad G_10 H locs := by rw [eG_10]; exact hm
    have g_11 : G_10 r = some (.inr (4, [.ref (ad rs), .int le, .ref (ad rr), .int ln, .long we, .long us, .long gr, .int 1, .int ou])) := by rw [eG_10, va_up_self]
    refine lv_iconst (v := 0) hx hb d_To_grindOrBar_18 (by decide) ?_
    exact m_zret (v := 0) hx hb hr rfl hm (by rw [if_pos (by rw [← ex_1]; exact Int32.not_le.mp c_10)]; exact ⟨rfl, by simp only [eG_10, ex_1, bx_uu]⟩) d_To_grindOrBar_19 hlocks
end
section
set_option maxHeartbeats 4000000 in
set_option maxRecDepth 100000 in
theorem c_Rd_isAbove (l : Launch) (D : va_G) (dA : Nat → ClassId) (ad : Nat → Nat) (G : mG) (sz : Nat) (r rl : Nat) (cn lm : Int32) (f : Nat → Int32) (p0 : Int32) (hg : G r = some (.inr (1, [.ref (ad rl), .int cn, .int lm]))) (ha : G rl = some (.inl (dA 0, 24, .inl f))) : Met l y_Rd_isAbove (.code y_Rd_isAbove b_Rd_isAbove 2 (some .boolean) :: mBig) ({ frames := 0, cells := 0, slots := 0, locals := 0 }) (mPc [.ref (ad r), .int p0] D mCl (mTys dA) mTx ad G sz) (mQi (fun (rv : Int32) (u : mU) => (bv rv (p0 < f 0)) ∧ u = (ad, G)) D mCl ad G sz) 0 0 (mA ad G sz) := by
  refine Met.ofW (cc := b_Rd_isAbove) (maxL := 2) (ret := (some .boolean)) (by decide) rfl ?_
  intro p e s m args below meth c s₁ B hml hv
  obtain ⟨rfl, hsz, hw0, hC⟩ := hv
  have hx := B.exec
  have hb := B.bytes
  have hr := B.returns
  have hts := atoms_spec (ws := .code y_Rd_isAbove b_Rd_isAbove 2 (some .boolean) :: mBig) B.pre
  have hT : ∀ w ∈ mBig, w.before _ s = true := fun w h => hts w (List.mem_cons_of_mem _ h)
  have hown : s.vm.findClass "EdgeWear$Readings" = some m.cls := findClass_of_methodNamed B.named
  have hlocks := B.notSynchronized
  subst hsz
  have hm := mS.start hw0
  have hA : ∀ q : Nat, s.heap.size ≤ q → mA ad G s.heap.size q := fun q h => Or.inr h
  have hl := lv_entry ([.ref (ad r), .int p0]) (n := 2) (Nat.le_of_ble_eq_true rfl)
  rw [lg_entry_eq]
  generalize (lg_sl ([.ref (ad r), .int p0]) ++ List.replicate (2 - (lg_sl ([.ref (ad r), .int p0])).length) Slot.unset).toArray = ls at hl ⊢
  have hl : lv_has ls 2 [(0, .ref (ad r)), (1, .int p0)] := hl
  refine lv_aload_n hx hb d_Rd_isAbove_0 rfl (lv_at hl 0 rfl) ?_
  refine m_get (v := .ref (ad rl)) (C := R_Rd) (T := T_Rd) (N := 3) hx hb hT in_Rd hown hC.1 hm r rfl hg rfl 0 (by decide) (hT _ k_245) (fun _ h9 => h9) rfl d_Rd_isAbove_1 ?_
  refine lv_iconst (v := 0) hx hb d_Rd_isAbove_4 (by decide) ?_
  refine m_iald (v := f 0) hx hb hC.1 hm rl rfl 0 ha rfl (vpc _ _ (by decide)) rfl d_Rd_isAbove_5 ?_
  refine lv_iload_n hx hb d_Rd_isAbove_6 rfl (lv_at hl 1 rfl) ?_
  refine lv_icmp_le (tgt := 14) hx hb d_Rd_isAbove_7 (by decide) (fun c_7 => ?_) (fun c_7 => ?_)
  · refine lv_iconst (v := 0) hx hb d_Rd_isAbove_14 (by decide) ?_
    exact m_zret (v := 0) hx hb hr rfl hm (⟨bv0 (Int32.not_lt.mpr c_7), rfl⟩) d_Rd_isAbove_15 hlocks
  · refine lv_iconst (v := 1) hx hb d_Rd_isAbove_10 (by decide) ?_
    refine lv_goto (tgt := 15) hx hb d_Rd_isAbove_11 (by decide) ?_
    exact m_zret (v := 1) hx hb hr rfl hm (⟨bv1 (Int32.not_le.mp c_7), rfl⟩) d_Rd_isAbove_15 hlocks

set_option maxHeartbeats 4000000 in
set_option maxRecDepth 100000 in
theorem c_Rd_step (l : Launch) (D : va_G) (dA : Nat → ClassId) (ad : Nat → Nat) (G : mG) (sz : Nat) (r rl : Nat) (cn lm : Int32) (f : Nat → Int32) (p0 : Int32) (k : Nat) (hk : p0 = nI k) (hk2 : k < 23) (hg : G r = some (.inr (1, [.ref (ad rl), .int cn, .int lm]))) (ha : G rl = some (.inl (dA 0, 24, .inl f))) : Met l y_Rd_step (.code y_Rd_step b_Rd_step 2 (some .int) :: mBig) ({ frames := 1, cells := 0, slots := 0, locals := 15 }) (mPc [.ref (ad r), .int p0] D mCl (mTys dA) mTx ad G sz) (mQi (fun (rv : Int32) (u : mU) => (rv = if 0 ≤ f k - f (k + 1) then f k - f (k + 1) else 0 - (f k - f (k + 1))) ∧ u = (ad, G)) D mCl ad G sz) 0 0 (mA ad G sz) := by
  refine Met.ofW (cc := b_Rd_step) (maxL := 2) (ret := (some .int)) (by decide) rfl ?_
  intro p e s m args below meth c s₁ B hml hv
  obtain ⟨rfl, hsz, hw0, hC⟩ := hv
  have hx := B.exec
  have hb := B.bytes
  have hr := B.returns
  have hts := atoms_spec (ws := .code y_Rd_step b_Rd_step 2 (some .int) :: mBig) B.pre
  have hT : ∀ w ∈ mBig, w.before _ s = true := fun w h => hts w (List.mem_cons_of_mem _ h)
  have hown : s.vm.findClass "EdgeWear$Readings" = some m.cls := findClass_of_methodNamed B.named
  have hlocks := B.notSynchronized
  subst hsz
  have hm := mS.start hw0
  have hA : ∀ q : Nat, s.heap.size ≤ q → mA ad G s.heap.size q := fun q h => Or.inr h
  have hl := lv_entry ([.ref (ad r), .int p0]) (n := 2) (Nat.le_of_ble_eq_true rfl)
  rw [lg_entry_eq]
  generalize (lg_sl ([.ref (ad r), .int p0]) ++ List.replicate (2 - (lg_sl ([.ref (ad r), .int p0])).length) Slot.unset).toArray = ls at hl ⊢
  have hl : lv_has ls 2 [(0, .ref (ad r)), (1, .int p0)] := hl
  refine lv_aload_n hx hb d_Rd_step_0 rfl (lv_at hl 0 rfl) ?_
  refine m_get (v := .ref (ad rl)) (C := R_Rd) (T := T_Rd) (N := 3) hx hb hT in_Rd hown hC.1 hm r rfl hg rfl 0 (by decide) (hT _ k_245) (fun _ h9 => h9) rfl d_Rd_step_1 ?_
  refine lv_iload_n hx hb d_Rd_step_4 rfl (lv_at hl 1 rfl) ?_
  refine m_iald (v := f k) hx hb hC.1 hm rl rfl 0 ha rfl (by rw [hk]; exact vp_in_nI (by omega) (by decide)) (by rw [hk, nI_clamp (by omega)]) d_Rd_step_5 ?_
  refine lv_aload_n hx hb d_Rd_step_6 rfl (lv_at hl 0 rfl) ?_
  refine m_get (v := .ref (ad rl)) (C := R_Rd) (T := T_Rd) (N := 3) hx hb hT in_Rd hown hC.1 hm r rfl hg rfl 0 (by decide) (hT _ k_245) (fun _ h9 => h9) rfl d_Rd_step_7 ?_
  refine lv_iload_n hx hb d_Rd_step_10 rfl (lv_at hl 1 rfl) ?_
  refine lv_iconst (v := 1) hx hb d_Rd_step_11 (by decide) ?_
  refine lv_iadd hx hb d_Rd_step_12 ?_
  refine lv_topi (fun x_1 ex_1 => ?_)
  refine m_iald (v := f (k + 1)) hx hb hC.1 hm rl rfl 0 ha rfl (by rw [ex_1, hk, nI_1]; exact vp_in_nI (by omega) (by decide)) (by rw [ex_1, hk, nI_1, nI_clamp (by omega)]) d_Rd_step_13 ?_
  refine lv_isub hx hb d_Rd_step_14 ?_
  refine lv_topi (fun x_2 ex_2 => ?_)
  refine va_mabs hx hb (by rw [hml]; exact hl.1.symm) hown (hT _ k_523) (hT _ k_524) (hT _ k_13) (hT _ k_525) (Nat.le_of_ble_eq_true rfl) (Nat.le_of_ble_eq_true rfl) (Nat.zero_le _) (Nat.zero_le _) d_Rd_step_15 ?_
  refine lv_topi (fun x_3 ex_3 => ?_)
  exact m_iret (v := x_3) hx hb hr hm (⟨by rw [ex_3, ex_2], rfl⟩) d_Rd_step_18 hlocks

set_option maxHeartbeats 4000000 in
set_option maxRecDepth 100000 in
theorem c_Rd_isJumping (l : Launch) (D : va_G) (dA : Nat → ClassId) (ad : Nat → Nat) (G : mG) (sz : Nat) (r rl : Nat) (cn lm : Int32) (f : Nat → Int32) (p0 : Int32) (hg : G r = some (.inr (1, [.ref (ad rl), .int cn, .int lm]))) (ha : G rl = some (.inl (dA 0, 24, .inl f))) : Met l y_Rd_isJumping (.code y_Rd_isJumping b_Rd_isJumping 2 (some .boolean) :: mBig) ({ frames := 2, cells := 0, slots := 0, locals := 36 }) (mPc [.ref (ad r), .int p0] D mCl (mTys dA) mTx ad G sz) (mQi (fun (rv : Int32) (u : mU) => (bv rv (3 ≤ cn ∧ p0 < (if 0 ≤ f 0 - f 1 then f 0 - f 1 else 0 - (f 0 - f 1)) + (if 0 ≤ f 1 - f 2 then f 1 - f 2 else 0 - (f 1 - f 2)))) ∧ u = (ad, G)) D mCl ad G sz) 0 0 (mA ad G sz) := by
  refine Met.ofW (cc := b_Rd_isJumping) (maxL := 2) (ret := (some .boolean)) (by decide) rfl ?_
  intro p e s m args below meth c s₁ B hml hv
  obtain ⟨rfl, hsz, hw0, hC⟩ := hv
  have hx := B.exec
  have hb := B.bytes
  have hr := B.returns
  have hts := atoms_spec (ws := .code y_Rd_isJumping b_Rd_isJumping 2 (some .boolean) :: mBig) B.pre
  have hT : ∀ w ∈ mBig, w.before _ s = true := fun w h => hts w (List.mem_cons_of_mem _ h)
  have hown : s.vm.findClass "EdgeWear$Readings" = some m.cls := findClass_of_methodNamed B.named
  have hlocks := B.notSynchronized
  subst hsz
  have hm := mS.start hw0
  have hA : ∀ q : Nat, s.heap.size ≤ q → mA ad G s.heap.size q := fun q h => Or.inr h
  have hl := lv_entry ([.ref (ad r), .int p0]) (n := 2) (Nat.le_of_ble_eq_true rfl)
  rw [lg_entry_eq]
  generalize (lg_sl ([.ref (ad r), .int p0]) ++ List.replicate (2 - (lg_sl ([.ref (ad r), .int p0])).length) Slot.unset).toArray = ls at hl ⊢
  have hl : lv_has ls 2 [(0, .ref (ad r)), (1, .int p0)] := hl
  refine lv_aload_n hx hb d_Rd_isJumping_0 rfl (lv_at hl 0 rfl) ?_
  refine m_get (v := .int cn) (C := R_Rd) (T := T_Rd) (N := 3) hx hb hT in_Rd hown hC.1 hm r rfl hg rfl 1 (by decide) (hT _ k_246) (fun _ h9 => h9) rfl d_Rd_isJumping_1 ?_
  refine lv_iconst (v := 3) hx hb d_Rd_isJumping_4 (by decide) ?_
  refine lv_icmp_lt (tgt := 27) hx hb d_Rd_isJumping_5 (by decide) (fun c_5 => ?_) (fun c_5 => ?_)
  · refine lv_iconst (v := 0) hx hb d_Rd_isJumping_27 (by decide) ?_
    exact m_zret (v := 0) hx hb hr rfl hm (⟨bv0 (fun h => Int32.not_lt.mpr h.1 c_5), rfl⟩) d_Rd_isJumping_28 hlocks
  · refine lv_aload_n hx hb d_Rd_isJumping_8 rfl (lv_at hl 0 rfl) ?_
    refine lv_iconst (v := 0) hx hb d_Rd_isJumping_9 (by decide) ?_
    refine m_roi (m_runV (As := [.int 0]) (rest := []) ⟨hx, hb, hml, hown, hts⟩ (c_Rd_step l D dA ad G s.heap.size r rl cn lm f 0 0 rfl (by decide) hg ha) (cwV 1 hts (gV k_522 k_519 k_520 k_521 k_12) rfl rfl rfl (by decide +kernel) ⟨Nat.le_of_ble_eq_true rfl, Nat.le_of_ble_eq_true rfl⟩) hm hA hC r rfl hg rfl rfl rfl hl.1 rfl (Nat.le_of_ble_eq_true rfl) d_Rd_isJumping_10 ⟨Nat.le_of_ble_eq_true rfl, Nat.le_of_ble_eq_true rfl⟩) hm hA (fun r_1 H locs w_2 hm => ?_)
    refine lv_aload_n hx hb d_Rd_isJumping_13 rfl (lv_at hl 0 rfl) ?_
    refine lv_iconst (v := 1) hx hb d_Rd_isJumping_14 (by decide) ?_
    refine m_roi (m_runV (As := [.int 1]) (rest := [.int r_1]) ⟨hx, hb, hml, hown, hts⟩ (c_Rd_step l D dA ad G H.size r rl cn lm f 1 1 rfl (by decide) hg ha) (cwV 1 hts (gV k_522 k_519 k_520 k_521 k_12) rfl rfl rfl (by decide +kernel) ⟨Nat.le_of_ble_eq_true rfl, Nat.le_of_ble_eq_true rfl⟩) hm hA hC r rfl hg rfl rfl rfl hl.1 rfl (Nat.le_of_ble_eq_true rfl) d_Rd_isJumping_15 ⟨Nat.le_of_ble_eq_true rfl, Nat.le_of_ble_eq_true rfl⟩) hm hA (fun r_3 H locs w_4 hm => ?_)
    refine lv_iadd hx hb d_Rd_isJumping_18 ?_
    refine lv_topi (fun x_5 ex_5 => ?_)
    refine lv_iload_n hx hb d_Rd_isJumping_19 rfl (lv_at hl 1 rfl) ?_
    refine lv_icmp_le (tgt := 27) hx hb d_Rd_isJumping_20 (by decide) (fun c_20 => ?_) (fun c_20 => ?_)
    · refine lv_iconst (v := 0) hx hb d_Rd_isJumping_27 (by decide) ?_
      exact m_zret (v := 0) hx hb hr rfl hm (⟨bv0 (fun h => by rw [ex_5, w_2, w_4] at c_20; exact Int32.not_lt.mpr c_20 h.2), rfl⟩) d_Rd_isJumping_28 hlocks
    · refine lv_iconst (v := 1) hx hb d_Rd_isJumping_23 (by decide) ?_
      refine lv_goto (tgt := 28) hx hb d_Rd_isJumping_24 (by decide) ?_
      exact m_zret (v := 1) hx hb hr rfl hm (⟨bv1 ⟨Int32.not_lt.mp c_5, by rw [ex_5, w_2, w_4] at c_20; exact Int32.not_le.mp c_20⟩, rfl⟩) d_Rd_isJumping_28 hlocks

set_option maxHeartbeats 4000000 in
set_option maxRecDepth 100000 in
theorem c_Rd_isRising (l : Launch) (D : va_G) (dA : Nat → ClassId) (ad : Nat → Nat) (G : mG) (sz : Nat) (r rl : Nat) (cn lm : Int32) (f : Nat → Int32) (p0 : Int32) (k : Nat) (hp : p0 = nI k) (hk1 : 1 ≤ k) (hk2 : k ≤ 24) (hg : G r = some (.inr (1, [.ref (ad rl), .int cn, .int lm]))) (ha : G rl = some (.inl (dA 0, 24, .inl f))) : Met l y_Rd_isRising (.code y_Rd_isRising b_Rd_isRising 3 (some .boolean) :: mBig) ({ frames := 0, cells := 0, slots := 0, locals := 0 }) (mPc [.ref (ad r), .int p0] D mCl (mTys dA) mTx ad G sz) (mQi (fun (rv : Int32) (u : mU) => (bv rv (nI k ≤ cn ∧ ∀ i, i + 1 < k → f (i + 1) < f i)) ∧ u = (ad, G)) D mCl ad G sz) 0 0 (mA ad G sz) := by
  refine Met.ofW (cc := b_Rd_isRising) (maxL := 3) (ret := (some .boolean)) (by decide) rfl ?_
  intro p e s m args below meth c s₁ B hml hv
  obtain ⟨rfl, hsz, hw0, hC⟩ := hv
  have hx := B.exec
  have hb := B.bytes
  have hr := B.returns
  have hts := atoms_spec (ws := .code y_Rd_isRising b_Rd_isRising 3 (some .boolean) :: mBig) B.pre
  have hT : ∀ w ∈ mBig, w.before _ s = true := fun w h => hts w (List.mem_cons_of_mem _ h)
  have hown : s.vm.findClass "EdgeWear$Readings" = some m.cls := findClass_of_methodNamed B.named
  have hlocks := B.notSynchronized
  subst hsz
  have hm := mS.start hw0
  have hA : ∀ q : Nat, s.heap.size ≤ q → mA ad G s.heap.size q := fun q h => Or.inr h
  have hl := lv_entry ([.ref (ad r), .int p0]) (n := 3) (Nat.le_of_ble_eq_true rfl)
  rw [lg_entry_eq]
  generalize (lg_sl ([.ref (ad r), .int p0]) ++ List.replicate (3 - (lg_sl ([.ref (ad r), .int p0])).length) Slot.unset).toArray = ls at hl ⊢
  have hl : lv_has ls 3 [(0, .ref (ad r)), (1, .int p0)] := hl
  refine lv_aload_n hx hb d_Rd_isRising_0 rfl (lv_at hl 0 rfl) ?_
  refine m_get (v := .int cn) (C := R_Rd) (T := T_Rd) (N := 3) hx hb hT in_Rd hown hC.1 hm r rfl hg rfl 1 (by decide) (hT _ k_246) (fun _ h9 => h9) rfl d_Rd_isRising_1 ?_
  refine lv_iload_n hx hb d_Rd_isRising_4 rfl (lv_at hl 1 rfl) ?_
  refine lv_icmp_ge (tgt := 10) hx hb d_Rd_isRising_5 (by decide) (fun c_5 => ?_) (fun c_5 => ?_)
  · refine lv_iconst (v := 0) hx hb d_Rd_isRising_10 (by decide) ?_
    refine lv_istore_n (lv' := [(2, .int 0), (0, .ref (ad r)), (1, .int p0)]) hx hb d_Rd_isRising_11 rfl hl (by decide) rfl (fun ls hl => ?_)
    refine m_loopH (nL := 3) (head := 12) (fun (q9 : Nat) => fun (x : Nat) => match x with | i => q9 + i = k ∧ i + 1 ≤ k ∧ ∀ j, j < i → f (j + 1) < f j) (fun (x : Nat) => match x with | i => [(0, .ref (ad r)), (1, .int p0), (2, .int (nI i))]) (fun _ => G) (fun i h => by have h1 := h.1; have h2 := h.2.1; omega) (fun q9 x ls H locs hI hl hm ih12 => ?_) (k - 1) (0) (⟨by omega, by omega, fun j h => absurd h (Nat.not_lt_zero j)⟩) (lv_sub hl [1, 2, 0] rfl) hm
    obtain ⟨i, ei⟩ : ∃ z, z = x := ⟨_, rfl⟩
    subst ei
    replace hI : (fun (q9 : Nat) => q9 + i = k ∧ i + 1 ≤ k ∧ ∀ j, j < i → f (j + 1) < f j) (q9 + 1) := hI
    have hl : lv_has ls 3 [(0, .ref (ad r)), (1, .int p0), (2, .int (nI i))] := hl
    refine lv_iload_n hx hb d_Rd_isRising_12 rfl (lv_at hl 2 rfl) ?_
    refine lv_iconst (v := 1) hx hb d_Rd_isRising_13 (by decide) ?_
    refine lv_iadd hx hb d_Rd_isRising_14 ?_
    refine lv_topi (fun x_1 ex_1 => ?_)
    refine lv_iload_n hx hb d_Rd_isRising_15 rfl (lv_at hl 1 rfl) ?_
    refine lv_icmp_ge (tgt := 44) hx hb d_Rd_isRising_16 (by decide) (fun c_16 => ?_) (fun c_16 => ?_)
    · refine lv_iconst (v := 1) hx hb d_Rd_isRising_44 (by decide) ?_
      exact m_zret (v := 1) hx hb hr rfl hm (⟨bv1 ⟨by rw [← hp]; exact c_5, fun j hj => hI.2.2 j (by have h9 := c_16; rw [ex_1, hp, nI_1] at h9; have := (nI_leI (by omega) (by omega)).mp h9; omega)⟩, rfl⟩) d_Rd_isRising_45 hlocks
    · have h16 : i + 1 < k := by
        have h9 := c_16
        rw [ex_1, hp, nI_1] at h9
        exact Nat.not_le.mp (fun q => h9 (nI_le q (by omega)))
      refine lv_aload_n hx hb d_Rd_isRising_19 rfl (lv_at hl 0 rfl) ?_
      refine m_get (v := .ref (ad rl)) (C := R_Rd) (T := T_Rd) (N := 3) hx hb hT in_Rd hown hC.1 hm r rfl hg rfl 0 (by decide) (hT _ k_245) (fun _ h9 => h9) rfl d_Rd_isRising_20 ?_
      refine lv_iload_n hx hb d_Rd_isRising_23 rfl (lv_at hl 2 rfl) ?_
      refine m_iald (v := f i) hx hb hC.1 hm rl rfl 0 ha rfl (vp_in_nI (by omega) (by decide)) (by rw [nI_clamp (by omega)]) d_Rd_isRising_24 ?_
      refine lv_aload_n hx hb d_Rd_isRising_25 rfl (lv_at hl 0 rfl) ?_
      refine m_get (v := .ref (ad rl)) (C := R_Rd) (T := T_Rd) (N := 3) hx hb hT in_Rd hown hC.1 hm r rfl hg rfl 0 (by decide) (hT _ k_245) (fun _ h9 => h9) rfl d_Rd_isRising_26 ?_
      refine lv_iload_n hx hb d_Rd_isRising_29 rfl (lv_at hl 2 rfl) ?_
      refine lv_iconst (v := 1) hx hb d_Rd_isRising_30 (by decide) ?_
      refine lv_iadd hx hb d_Rd_isRising_31 ?_
      refine lv_topi (fun x_2 ex_2 => ?_)
      refine m_iald (v := f (i + 1)) hx hb hC.1 hm rl rfl 0 ha rfl (by rw [ex_2, nI_1]; exact vp_in_nI (by omega) (by decide)) (by rw [ex_2, nI_1, nI_clamp (by omega)]) d_Rd_isRising_32 ?_
      refine lv_icmp_gt (tgt := 38) hx hb d_Rd_isRising_33 (by decide) (fun c_33 => ?_) (fun c_33 => ?_)
      · refine lv_iinc (v := nI (i + 1)) (lv' := [(2, .int (nI (i + 1))), (0, .ref (ad r)), (1, .int p0)]) hx hb d_Rd_isRising_38 hl (k := 2) rfl (nI_1 _) (by decide) rfl (fun ls hl => ?_)
        refine lv_goto (tgt := 12) hx hb d_Rd_isRising_41 (by decide) ?_
        exact ih12 (i + 1) ls H locs (⟨by omega, by omega, fun j hj => (Nat.lt_succ_iff_lt_or_eq.mp hj).elim (fun q => hI.2.2 j q) (fun q => by rw [q]; exact c_33)⟩) (lv_sub hl [1, 2, 0] rfl) hm
      · refine lv_iconst (v := 0) hx hb d_Rd_isRising_36 (by decide) ?_
        exact m_zret (v := 0) hx hb hr rfl hm (⟨bv0 (fun h => c_33 (h.2 i h16)), rfl⟩) d_Rd_isRising_37 hlocks
  · refine lv_iconst (v := 0) hx hb d_Rd_isRising_8 (by decide) ?_
    exact m_zret (v := 0) hx hb hr rfl hm (⟨bv0 (fun h => c_5 (by rw [hp]; exact h.1)), rfl⟩) d_Rd_isRising_9 hlocks

set_option maxHeartbeats 4000000 in
set_option maxRecDepth 100000 in
theorem c_Rd_staysAbove (l : Launch) (D : va_G) (dA : Nat → ClassId) (ad : Nat → Nat) (G : mG) (sz : Nat) (r rl : Nat) (cn lm : Int32) (f : Nat → Int32) (p0 p1 : Int32) (k : Nat) (hp : p1 = nI k) (hk2 : k ≤ 24) (hg : G r = some (.inr (1, [.ref (ad rl), .int cn, .int lm]))) (ha : G rl = some (.inl (dA 0, 24, .inl f))) : Met l y_Rd_staysAbove (.code y_Rd_staysAbove b_Rd_staysAbove 4 (some .boolean) :: mBig) ({ frames := 0, cells := 0, slots := 0, locals := 0 }) (mPc [.ref (ad r), .int p0, .int p1] D mCl (mTys dA) mTx ad G sz) (mQi (fun (rv : Int32) (u : mU) => (bv rv (nI k ≤ cn ∧ ∀ i, i < k → p0 < f i)) ∧ u = (ad, G)) D mCl ad G sz) 0 0 (mA ad G sz) := by
  refine Met.ofW (cc := b_Rd_staysAbove) (maxL := 4) (ret := (some .boolean)) (by decide) rfl ?_
  intro p e s m args below meth c s₁ B hml hv
  obtain ⟨rfl, hsz, hw0, hC⟩ := hv
  have hx := B.exec
  have hb := B.bytes
  have hr := B.returns
  have hts := atoms_spec (ws := .code y_Rd_staysAbove b_Rd_staysAbove 4 (some .boolean) :: mBig) B.pre
  have hT : ∀ w ∈ mBig, w.before _ s = true := fun w h => hts w (List.mem_cons_of_mem _ h)
  have hown : s.vm.findClass "EdgeWear$Readings" = some m.cls := findClass_of_methodNamed B.named
  have hlocks := B.notSynchronized
  subst hsz
  have hm := mS.start hw0
  have hA : ∀ q : Nat, s.heap.size ≤ q → mA ad G s.heap.size q := fun q h => Or.inr h
  have hl := lv_entry ([.ref (ad r), .int p0, .int p1]) (n := 4) (Nat.le_of_ble_eq_true rfl)
  rw [lg_entry_eq]
  generalize (lg_sl ([.ref (ad r), .int p0, .int p1]) ++ List.replicate (4 - (lg_sl ([.ref (ad r), .int p0, .int p1])).length) Slot.unset).toArray = ls at hl ⊢
  have hl : lv_has ls 4 [(0, .ref (ad r)), (1, .int p0), (2, .int p1)] := hl
  refine lv_aload_n hx hb d_Rd_staysAbove_0 rfl (lv_at hl 0 rfl) ?_
  refine m_get (v := .int cn) (C := R_Rd) (T := T_Rd) (N := 3) hx hb hT in_Rd hown hC.1 hm r rfl hg rfl 1 (by decide) (hT _ k_246) (fun _ h9 => h9) rfl d_Rd_staysAbove_1 ?_
  refine lv_iload_n hx hb d_Rd_staysAbove_4 rfl (lv_at hl 2 rfl) ?_
  refine lv_icmp_ge (tgt := 10) hx hb d_Rd_staysAbove_5 (by decide) (fun c_5 => ?_) (fun c_5 => ?_)
  · refine lv_iconst (v := 0) hx hb d_Rd_staysAbove_10 (by decide) ?_
    refine lv_istore_n (lv' := [(3, .int 0), (0, .ref (ad r)), (1, .int p0), (2, .int p1)]) hx hb d_Rd_staysAbove_11 rfl hl (by decide) rfl (fun ls hl => ?_)
    refine m_loopH (nL := 4) (head := 12) (fun (q9 : Nat) => fun (x : Nat) => match x with | i => q9 + i = k + 1 ∧ i ≤ k ∧ ∀ j, j < i → p0 < f j) (fun (x : Nat) => match x with | i => [(0, .ref (ad r)), (1, .int p0), (2, .int p1), (3, .int (nI i))]) (fun _ => G) (fun i h => by have h1 := h.1; have h2 := h.2.1; omega) (fun q9 x ls H locs hI hl hm ih12 => ?_) (k) (0) (⟨by omega, by omega, fun j h => absurd h (Nat.not_lt_zero j)⟩) (lv_sub hl [1, 2, 3, 0] rfl) hm
    obtain ⟨i, ei⟩ : ∃ z, z = x := ⟨_, rfl⟩
    subst ei
    replace hI : (fun (q9 : Nat) => q9 + i = k + 1 ∧ i ≤ k ∧ ∀ j, j < i → p0 < f j) (q9 + 1) := hI
    have hl : lv_has ls 4 [(0, .ref (ad r)), (1, .int p0), (2, .int p1), (3, .int (nI i))] := hl
    refine lv_iload_n hx hb d_Rd_staysAbove_12 rfl (lv_at hl 3 rfl) ?_
    refine lv_iload_n hx hb d_Rd_staysAbove_13 rfl (lv_at hl 2 rfl) ?_
    refine lv_icmp_ge (tgt := 35) hx hb d_Rd_staysAbove_14 (by decide) (fun c_14 => ?_) (fun c_14 => ?_)
    · refine lv_iconst (v := 1) hx hb d_Rd_staysAbove_35 (by decide) ?_
      exact m_zret (v := 1) hx hb hr rfl hm (⟨bv1 ⟨by rw [← hp]; exact c_5, fun j hj => hI.2.2 j (by have h9 := c_14; rw [hp] at h9; have := (nI_leI (by omega) (by omega)).mp h9; omega)⟩, rfl⟩) d_Rd_staysAbove_36 hlocks
    · have h14 : i < k := by
        have h9 := c_14
        rw [hp] at h9
        exact Nat.not_le.mp (fun q => h9 (nI_le q (by omega)))
      refine lv_aload_n hx hb d_Rd_staysAbove_17 rfl (lv_at hl 0 rfl) ?_
      refine m_get (v := .ref (ad rl)) (C := R_Rd) (T := T_Rd) (N := 3) hx hb hT in_Rd hown hC.1 hm r rfl hg rfl 0 (by decide) (hT _ k_245) (fun _ h9 => h9) rfl d_Rd_staysAbove_18 ?_
      refine lv_iload_n hx hb d_Rd_staysAbove_21 rfl (lv_at hl 3 rfl) ?_
      refine m_iald (v := f i) hx hb hC.1 hm rl rfl 0 ha rfl (vp_in_nI (by omega) (by decide)) (by rw [nI_clamp (by omega)]) d_Rd_staysAbove_22 ?_
      refine lv_iload_n hx hb d_Rd_staysAbove_23 rfl (lv_at hl 1 rfl) ?_
      refine lv_icmp_gt (tgt := 29) hx hb d_Rd_staysAbove_24 (by decide) (fun c_24 => ?_) (fun c_24 => ?_)
      · refine lv_iinc (v := nI (i + 1)) (lv' := [(3, .int (nI (i + 1))), (0, .ref (ad r)), (1, .int p0), (2, .int p1)]) hx hb d_Rd_staysAbove_29 hl (k := 3) rfl (nI_1 _) (by decide) rfl (fun ls hl => ?_)
        refine lv_goto (tgt := 12) hx hb d_Rd_staysAbove_32 (by decide) ?_
        exact ih12 (i + 1) ls H locs (⟨by omega, by omega, fun j hj => (Nat.lt_succ_iff_lt_or_eq.mp hj).elim (fun q => hI.2.2 j q) (fun q => by rw [q]; exact c_24)⟩) (lv_sub hl [1, 2, 3, 0] rfl) hm
      · refine lv_iconst (v := 0) hx hb d_Rd_staysAbove_27 (by decide) ?_
        exact m_zret (v := 0) hx hb hr rfl hm (⟨bv0 (fun h => c_24 (h.2 i h14)), rfl⟩) d_Rd_staysAbove_28 hlocks
  · refine lv_iconst (v := 0) hx hb d_Rd_staysAbove_8 (by decide) ?_
    exact m_zret (v := 0) hx hb hr rfl hm (⟨bv0 (fun h => c_5 (by rw [hp]; exact h.1)), rfl⟩) d_Rd_staysAbove_9 hlocks
end
section
set_option maxHeartbeats 4000000 in
set_option maxRecDepth 100000 in
theorem c_So_greatestLife (l : Launch) (D : va_G) (dA : Nat → ClassId) (ad : Nat → Nat) (G : mG) (sz : Nat) (r rl : Nat) (nu lc : Int32) (lim : Int64) (ch fa : Int32) (f : Nat → Int32) (kc : Nat) (hc : lc = nI kc) (hc2 : kc ≤ 40) (hg : G r = some (.inr (3, [.int nu, .ref (ad rl), .int lc, .long lim, .int ch, .int fa]))) (ha : G rl = some (.inl (dA 0, 40, .inl f))) : Met l y_So_greatestLife (.code y_So_greatestLife b_So_greatestLife 3 (some .int) :: mBig) ({ frames := 1, cells := 0, slots := 0, locals := 15 }) (mPc [.ref (ad r)] D mCl (mTys dA) mTx ad G sz) (mQi (fun (rv : Int32) (u : mU) => (rv = eMax f kc) ∧ u = (ad, G)) D mCl ad G sz) 0 0 (mA ad G sz) := by
  refine Met.ofW (cc := b_So_greatestLife) (maxL := 3) (ret := (some .int)) (by decide) rfl ?_
  intro p e s m args below meth c s₁ B hml hv
  obtain ⟨rfl, hsz, hw0, hC⟩ := hv
  have hx := B.exec
  have hb := B.bytes
  have hr := B.returns
  have hts := atoms_spec (ws := .code y_So_greatestLife b_So_greatestLife 3 (some .int) :: mBig) B.pre
  have hT : ∀ w ∈ mBig, w.before _ s = true := fun w h => hts w (List.mem_cons_of_mem _ h)
  have hown : s.vm.findClass "EdgeWear$Sort" = some m.cls := findClass_of_methodNamed B.named
  have hlocks := B.notSynchronized
  subst hsz
  have hm := mS.start hw0
  have hA : ∀ q : Nat, s.heap.size ≤ q → mA ad G s.heap.size q := fun q h => Or.inr h
  have hl := lv_entry ([.ref (ad r)]) (n := 3) (Nat.le_of_ble_eq_true rfl)
  rw [lg_entry_eq]
  generalize (lg_sl ([.ref (ad r)]) ++ List.replicate (3 - (lg_sl ([.ref (ad r)])).length) Slot.unset).toArray = ls at hl ⊢
  have hl : lv_has ls 3 [(0, .ref (ad r))] := hl
  refine lv_iconst (v := 0) hx hb d_So_greatestLife_0 (by decide) ?_
  refine lv_istore_n (lv' := [(1, .int 0), (0, .ref (ad r))]) hx hb d_So_greatestLife_1 rfl hl (by decide) rfl (fun ls hl => ?_)
  refine lv_iconst (v := 0) hx hb d_So_greatestLife_2 (by decide) ?_
  refine lv_istore_n (lv' := [(2, .int 0), (1, .int 0), (0, .ref (ad r))]) hx hb d_So_greatestLife_3 rfl hl (by decide) rfl (fun ls hl => ?_)
  refine m_loopH (nL := 3) (head := 4) (fun (q9 : Nat) => fun (x : Nat) => match x with | i => q9 + i = kc + 1 ∧ i ≤ kc ∧ True) (fun (x : Nat) => match x with | i => [(0, .ref (ad r)), (1, .int (eMax f i)), (2, .int (nI i))]) (fun _ => G) (fun i h => by have h1 := h.1; have h2 := h.2.1; omega) (fun q9 x ls H locs hI hl hm ih4 => ?_) (kc) (0) (⟨by omega, by omega, trivial⟩) (lv_sub hl [2, 1, 0] rfl) hm
  obtain ⟨i, ei⟩ : ∃ z, z = x := ⟨_, rfl⟩
  subst ei
  replace hI : (fun (q9 : Nat) => q9 + i = kc + 1 ∧ i ≤ kc ∧ True) (q9 + 1) := hI
  have hl : lv_has ls 3 [(0, .ref (ad r)), (1, .int (eMax f i)), (2, .int (nI i))] := hl
  refine lv_iload_n hx hb d_So_greatestLife_4 rfl (lv_at hl 2 rfl) ?_
  refine lv_aload_n hx hb d_So_greatestLife_5 rfl (lv_at hl 0 rfl) ?_
  refine m_get (v := .int lc) (C := R_So) (T := T_So) (N := 6) hx hb hT in_So hown hC.1 hm r rfl hg rfl 2 (by decide) (hT _ k_37) (fun _ h9 => h9) rfl d_So_greatestLife_6 ?_
  refine lv_icmp_ge (tgt := 29) hx hb d_So_greatestLife_9 (by decide) (fun c_9 => ?_) (fun c_9 => ?_)
  · have hge : i = kc := by
      have h9 := c_9
      rw [hc] at h9
      have := (nI_leI (by omega) (by omega)).mp h9
      omega
    refine lv_iload_n hx hb d_So_greatestLife_29 rfl (lv_at hl 1 rfl) ?_
    exact m_iret (v := eMax f i) hx hb hr hm (⟨by rw [hge], rfl⟩) d_So_greatestLife_30 hlocks
  · have hlt : i < kc := by
      have h9 := c_9
      rw [hc] at h9
      exact Nat.not_le.mp (fun q => h9 (nI_le q (by omega)))
    refine lv_iload_n hx hb d_So_greatestLife_12 rfl (lv_at hl 1 rfl) ?_
    refine lv_aload_n hx hb d_So_greatestLife_13 rfl (lv_at hl 0 rfl) ?_
    refine m_get (v := .ref (ad rl)) (C := R_So) (T := T_So) (N := 6) hx hb hT in_So hown hC.1 hm r rfl hg rfl 1 (by decide) (hT _ k_35) (fun _ h9 => h9) rfl d_So_greatestLife_14 ?_
    refine lv_iload_n hx hb d_So_greatestLife_17 rfl (lv_at hl 2 rfl) ?_
    refine m_iald (v := f i) hx hb hC.1 hm rl rfl 0 ha rfl (vp_in_nI (by omega) (by decide)) (by rw [nI_clamp (by omega)]) d_So_greatestLife_18 ?_
    refine va_mmax hx hb (by rw [hml]; exact hl.1.symm) hown (hT _ k_451) (hT _ k_452) (hT _ k_13) (hT _ k_453) (Nat.le_of_ble_eq_true rfl) (Nat.le_of_ble_eq_true rfl) (Nat.zero_le _) (Nat.zero_le _) d_So_greatestLife_19 ?_
    refine lv_topi (fun x_1 ex_1 => ?_)
    rw [show x_1 = eMax f (i + 1) from ex_1]
    refine lv_istore_n (lv' := [(1, .int (eMax f (i + 1))), (0, .ref (ad r)), (2, .int (nI i))]) hx hb d_So_greatestLife_22 rfl hl (by decide) rfl (fun ls hl => ?_)
    refine lv_iinc (v := nI (i + 1)) (lv' := [(2, .int (nI (i + 1))), (1, .int (eMax f (i + 1))), (0, .ref (ad r))]) hx hb d_So_greatestLife_23 hl (k := 2) rfl (nI_1 _) (by decide) rfl (fun ls hl => ?_)
    refine lv_goto (tgt := 4) hx hb d_So_greatestLife_26 (by decide) ?_
    exact ih4 (i + 1) ls H locs (⟨by omega, by omega, trivial⟩) (lv_sub hl [2, 1, 0] rfl) hm

set_option maxHeartbeats 4000000 in
set_option maxRecDepth 100000 in
theorem c_So_costAt (l : Launch) (D : va_G) (dA : Nat → ClassId) (ad : Nat → Nat) (G : mG) (sz : Nat) (r rl : Nat) (nu lc : Int32) (lim : Int64) (ch fa : Int32) (f : Nat → Int32) (p0 : Int32) (kc : Nat) (hc : lc = nI kc) (hc2 : kc ≤ 40) (hg : G r = some (.inr (3, [.int nu, .ref (ad rl), .int lc, .long lim, .int ch, .int fa]))) (ha : G rl = some (.inl (dA 0, 40, .inl f))) : Met l y_So_costAt (.code y_So_costAt b_So_costAt 5 (some .long) :: mBig) ({ frames := 0, cells := 0, slots := 0, locals := 0 }) (mPc [.ref (ad r), .int p0] D mCl (mTys dA) mTx ad G sz) (mQl (fun (rv : Int64) (u : mU) => (rv = eCost f ch fa p0 kc) ∧ u = (ad, G)) D mCl ad G sz) 0 0 (mA ad G sz) := by
  refine Met.ofW (cc := b_So_costAt) (maxL := 5) (ret := (some .long)) (by decide) rfl ?_
  intro p e s m args below meth c s₁ B hml hv
  obtain ⟨rfl, hsz, hw0, hC⟩ := hv
  have hx := B.exec
  have hb := B.bytes
  have hr := B.returns
  have hts := atoms_spec (ws := .code y_So_costAt b_So_costAt 5 (some .long) :: mBig) B.pre
  have hT : ∀ w ∈ mBig, w.before _ s = true := fun w h => hts w (List.mem_cons_of_mem _ h)
  have hown : s.vm.findClass "EdgeWear$Sort" = some m.cls := findClass_of_methodNamed B.named
  have hlocks := B.notSynchronized
  subst hsz
  have hm := mS.start hw0
  have hA : ∀ q : Nat, s.heap.size ≤ q → mA ad G s.heap.size q := fun q h => Or.inr h
  have hl := lv_entry ([.ref (ad r), .int p0]) (n := 5) (Nat.le_of_ble_eq_true rfl)
  rw [lg_entry_eq]
  generalize (lg_sl ([.ref (ad r), .int p0]) ++ List.replicate (5 - (lg_sl ([.ref (ad r), .int p0])).length) Slot.unset).toArray = ls at hl ⊢
  have hl : lv_has ls 5 [(0, .ref (ad r)), (1, .int p0)] := hl
  refine lv_lconst (v := 0) hx hb d_So_costAt_0 (by decide) ?_
  refine lv_lstore_n (lv' := [(2, .long 0), (0, .ref (ad r)), (1, .int p0)]) hx hb d_So_costAt_1 rfl hl (by decide) rfl (fun ls hl => ?_)
  refine lv_iconst (v := 0) hx hb d_So_costAt_2 (by decide) ?_
  refine lv_istore (lv' := [(4, .int 0), (2, .long 0), (0, .ref (ad r)), (1, .int p0)]) hx hb d_So_costAt_3 hl (by decide) rfl (fun ls hl => ?_)
  refine m_loopH (nL := 5) (head := 5) (fun (q9 : Nat) => fun (x : Nat) => match x with | i => q9 + i = kc + 1 ∧ i ≤ kc ∧ True) (fun (x : Nat) => match x with | i => [(0, .ref (ad r)), (1, .int p0), (2, .long (eCost f ch fa p0 i)), (4, .int (nI i))]) (fun _ => G) (fun i h => by have h1 := h.1; have h2 := h.2.1; omega) (fun q9 x ls H locs hI hl hm ih5 => ?_) (kc) (0) (⟨by omega, by omega, trivial⟩) (lv_sub hl [2, 3, 1, 0] rfl) hm
  obtain ⟨i, ei⟩ : ∃ z, z = x := ⟨_, rfl⟩
  subst ei
  replace hI : (fun (q9 : Nat) => q9 + i = kc + 1 ∧ i ≤ kc ∧ True) (q9 + 1) := hI
  have hl : lv_has ls 5 [(0, .ref (ad r)), (1, .int p0), (2, .long (eCost f ch fa p0 i)), (4, .int (nI i))] := hl
  refine lv_iload hx hb d_So_costAt_5 (lv_at hl 3 rfl) ?_
  refine lv_aload_n hx hb d_So_costAt_7 rfl (lv_at hl 0 rfl) ?_
  refine m_get (v := .int lc) (C := R_So) (T := T_So) (N := 6) hx hb hT in_So hown hC.1 hm r rfl hg rfl 2 (by decide) (hT _ k_37) (fun _ h9 => h9) rfl d_So_costAt_8 ?_
  refine lv_icmp_ge (tgt := 47) hx hb d_So_costAt_11 (by decide) (fun c_11 => ?_) (fun c_11 => ?_)
  · have hge : i = kc := by
      have h9 := c_11
      rw [hc] at h9
      have := (nI_leI (by omega) (by omega)).mp h9
      omega
    refine lv_lload_n hx hb d_So_costAt_47 rfl (lv_at hl 2 rfl) ?_
    exact m_lret (v := eCost f ch fa p0 i) hx hb hr hm (⟨by rw [hge], rfl⟩) d_So_costAt_48 hlocks
  · have hlt : i < kc := by
      have h9 := c_11
      rw [hc] at h9
      exact Nat.not_le.mp (fun q => h9 (nI_le q (by omega)))
    refine lv_lload_n hx hb d_So_costAt_14 rfl (lv_at hl 2 rfl) ?_
    refine lv_aload_n hx hb d_So_costAt_15 rfl (lv_at hl 0 rfl) ?_
    refine m_get (v := .ref (ad rl)) (C := R_So) (T := T_So) (N := 6) hx hb hT in_So hown hC.1 hm r rfl hg rfl 1 (by decide) (hT _ k_35) (fun _ h9 => h9) rfl d_So_costAt_16 ?_
    refine lv_iload hx hb d_So_costAt_19 (lv_at hl 3 rfl) ?_
    refine m_iald (v := f i) hx hb hC.1 hm rl rfl 0 ha rfl (vp_in_nI (by omega) (by decide)) (by rw [nI_clamp (by omega)]) d_So_costAt_21 ?_
    refine lv_iload_n hx hb d_So_costAt_22 rfl (lv_at hl 1 rfl) ?_
    refine lv_icmp_ge (tgt := 34) hx hb d_So_costAt_23 (by decide) (fun c_23 => ?_) (fun c_23 => ?_)
    · refine lv_aload_n hx hb d_So_costAt_34 rfl (lv_at hl 0 rfl) ?_
      refine m_get (v := .int ch) (C := R_So) (T := T_So) (N := 6) hx hb hT in_So hown hC.1 hm r rfl hg rfl 4 (by decide) (hT _ k_42) (fun _ h9 => h9) rfl d_So_costAt_35 ?_
      refine lv_i2l hx hb d_So_costAt_38 rfl ?_
      refine lv_topl (fun x_1 ex_1 => ?_)
      refine lv_ladd hx hb d_So_costAt_39 ?_
      refine lv_topl (fun x_2 ex_2 => ?_)
      have hq : x_2 = eCost f ch fa p0 (i + 1) := by
        rw [ex_2, ex_1]
        show _ = _ + (if _ then _ else _)
        rw [if_neg (Int32.not_lt.mpr c_23)]
      rw [hq]
      refine lv_lstore_n (lv' := [(2, .long (eCost f ch fa p0 (i + 1))), (0, .ref (ad r)), (1, .int p0), (4, .int (nI i))]) hx hb d_So_costAt_40 rfl hl (by decide) rfl (fun ls hl => ?_)
      refine lv_iinc (v := nI (i + 1)) (lv' := [(4, .int (nI (i + 1))), (2, .long (eCost f ch fa p0 (i + 1))), (0, .ref (ad r)), (1, .int p0)]) hx hb d_So_costAt_41 hl (k := 3) rfl (nI_1 _) (by decide) rfl (fun ls hl => ?_)
      refine lv_goto (tgt := 5) hx hb d_So_costAt_44 (by decide) ?_
      exact ih5 (i + 1) ls H locs (⟨by omega, by omega, trivial⟩) (lv_sub hl [2, 3, 1, 0] rfl) hm
    · refine lv_aload_n hx hb d_So_costAt_26 rfl (lv_at hl 0 rfl) ?_
      refine m_get (v := .int fa) (C := R_So) (T := T_So) (N := 6) hx hb hT in_So hown hC.1 hm r rfl hg rfl 5 (by decide) (hT _ k_44) (fun _ h9 => h9) rfl d_So_costAt_27 ?_
      refine lv_i2l hx hb d_So_costAt_30 rfl ?_
      refine lv_topl (fun x_3 ex_3 => ?_)
      refine lv_goto (tgt := 39) hx hb d_So_costAt_31 (by decide) ?_
      refine lv_ladd hx hb d_So_costAt_39 ?_
      refine lv_topl (fun x_4 ex_4 => ?_)
      have hq : x_4 = eCost f ch fa p0 (i + 1) := by
        rw [ex_4, ex_3]
        show _ = _ + (if _ then _ else _)
        rw [if_pos (Int32.not_le.mp c_23)]
      rw [hq]
      refine lv_lstore_n (lv' := [(2, .long (eCost f ch fa p0 (i + 1))), (0, .ref (ad r)), (1, .int p0), (4, .int (nI i))]) hx hb d_So_costAt_40 rfl hl (by decide) rfl (fun ls hl => ?_)
      refine lv_iinc (v := nI (i + 1)) (lv' := [(4, .int (nI (i + 1))), (2, .long (eCost f ch fa p0 (i + 1))), (0, .ref (ad r)), (1, .int p0)]) hx hb d_So_costAt_41 hl (k := 3) rfl (nI_1 _) (by decide) rfl (fun ls hl => ?_)
      refine lv_goto (tgt := 5) hx hb d_So_costAt_44 (by decide) ?_
      exact ih5 (i + 1) ls H locs (⟨by omega, by omega, trivial⟩) (lv_sub hl [2, 3, 1, 0] rfl) hm

set_option maxHeartbeats 4000000 in
set_option maxRecDepth 100000 in
theorem c_So_usesAt (l : Launch) (D : va_G) (dA : Nat → ClassId) (ad : Nat → Nat) (G : mG) (sz : Nat) (r rl : Nat) (nu lc : Int32) (lim : Int64) (ch fa : Int32) (f : Nat → Int32) (p0 : Int32) (kc : Nat) (hc : lc = nI kc) (hc2 : kc ≤ 40) (hg : G r = some (.inr (3, [.int nu, .ref (ad rl), .int lc, .long lim, .int ch, .int fa]))) (ha : G rl = some (.inl (dA 0, 40, .inl f))) : Met l y_So_usesAt (.code y_So_usesAt b_So_usesAt 5 (some .long) :: mBig) ({ frames := 1, cells := 0, slots := 0, locals := 17 }) (mPc [.ref (ad r), .int p0] D mCl (mTys dA) mTx ad G sz) (mQl (fun (rv : Int64) (u : mU) => (rv = eUses f p0 kc) ∧ u = (ad, G)) D mCl ad G sz) 0 0 (mA ad G sz) := by
  refine Met.ofW (cc := b_So_usesAt) (maxL := 5) (ret := (some .long)) (by decide) rfl ?_
  intro p e s m args below meth c s₁ B hml hv
  obtain ⟨rfl, hsz, hw0, hC⟩ := hv
  have hx := B.exec
  have hb := B.bytes
  have hr := B.returns
  have hts := atoms_spec (ws := .code y_So_usesAt b_So_usesAt 5 (some .long) :: mBig) B.pre
  have hT : ∀ w ∈ mBig, w.before _ s = true := fun w h => hts w (List.mem_cons_of_mem _ h)
  have hown : s.vm.findClass "EdgeWear$Sort" = some m.cls := findClass_of_methodNamed B.named
  have hlocks := B.notSynchronized
  subst hsz
  have hm := mS.start hw0
  have hA : ∀ q : Nat, s.heap.size ≤ q → mA ad G s.heap.size q := fun q h => Or.inr h
  have hl := lv_entry ([.ref (ad r), .int p0]) (n := 5) (Nat.le_of_ble_eq_true rfl)
  rw [lg_entry_eq]
  generalize (lg_sl ([.ref (ad r), .int p0]) ++ List.replicate (5 - (lg_sl ([.ref (ad r), .int p0])).length) Slot.unset).toArray = ls at hl ⊢
  have hl : lv_has ls 5 [(0, .ref (ad r)), (1, .int p0)] := hl
  refine lv_lconst (v := 0) hx hb d_So_usesAt_0 (by decide) ?_
  refine lv_lstore_n (lv' := [(2, .long 0), (0, .ref (ad r)), (1, .int p0)]) hx hb d_So_usesAt_1 rfl hl (by decide) rfl (fun ls hl => ?_)
  refine lv_iconst (v := 0) hx hb d_So_usesAt_2 (by decide) ?_
  refine lv_istore (lv' := [(4, .int 0), (2, .long 0), (0, .ref (ad r)), (1, .int p0)]) hx hb d_So_usesAt_3 hl (by decide) rfl (fun ls hl => ?_)
  refine m_loopH (nL := 5) (head := 5) (fun (q9 : Nat) => fun (x : Nat) => match x with | i => q9 + i = kc + 1 ∧ i ≤ kc ∧ True) (fun (x : Nat) => match x with | i => [(0, .ref (ad r)), (1, .int p0), (2, .long (eUses f p0 i)), (4, .int (nI i))]) (fun _ => G) (fun i h => by have h1 := h.1; have h2 := h.2.1; omega) (fun q9 x ls H locs hI hl hm ih5 => ?_) (kc) (0) (⟨by omega, by omega, trivial⟩) (lv_sub hl [2, 3, 1, 0] rfl) hm
  obtain ⟨i, ei⟩ : ∃ z, z = x := ⟨_, rfl⟩
  subst ei
  replace hI : (fun (q9 : Nat) => q9 + i = kc + 1 ∧ i ≤ kc ∧ True) (q9 + 1) := hI
  have hl : lv_has ls 5 [(0, .ref (ad r)), (1, .int p0), (2, .long (eUses f p0 i)), (4, .int (nI i))] := hl
  refine lv_iload hx hb d_So_usesAt_5 (lv_at hl 3 rfl) ?_
  refine lv_aload_n hx hb d_So_usesAt_7 rfl (lv_at hl 0 rfl) ?_
  refine m_get (v := .int lc) (C := R_So) (T := T_So) (N := 6) hx hb hT in_So hown hC.1 hm r rfl hg rfl 2 (by decide) (hT _ k_37) (fun _ h9 => h9) rfl d_So_usesAt_8 ?_
  refine lv_icmp_ge (tgt := 35) hx hb d_So_usesAt_11 (by decide) (fun c_11 => ?_) (fun c_11 => ?_)
  · have hge : i = kc := by
      have h9 := c_11
      rw [hc] at h9
      have := (nI_leI (by omega) (by omega)).mp h9
      omega
    refine lv_lload_n hx hb d_So_usesAt_35 rfl (lv_at hl 2 rfl) ?_
    exact m_lret (v := eUses f p0 i) hx hb hr hm (⟨by rw [hge], rfl⟩) d_So_usesAt_36 hlocks
  · have hlt : i < kc := by
      have h9 := c_11
      rw [hc] at h9
      exact Nat.not_le.mp (fun q => h9 (nI_le q (by omega)))
    refine lv_lload_n hx hb d_So_usesAt_14 rfl (lv_at hl 2 rfl) ?_
    refine lv_aload_n hx hb d_So_usesAt_15 rfl (lv_at hl 0 rfl) ?_
    refine m_get (v := .ref (ad rl)) (C := R_So) (T := T_So) (N := 6) hx hb hT in_So hown hC.1 hm r rfl hg rfl 1 (by decide) (hT _ k_35) (fun _ h9 => h9) rfl d_So_usesAt_16 ?_
    refine lv_iload hx hb d_So_usesAt_19 (lv_at hl 3 rfl) ?_
    refine m_iald (v := f i) hx hb hC.1 hm rl rfl 0 ha rfl (vp_in_nI (by omega) (by decide)) (by rw [nI_clamp (by omega)]) d_So_usesAt_21 ?_
    refine lv_iload_n hx hb d_So_usesAt_22 rfl (lv_at hl 1 rfl) ?_
    refine va_mmin hx hb (by rw [hml]; exact hl.1.symm) hown (hT _ k_435) (hT _ k_436) (hT _ k_13) (hT _ k_437) (Nat.le_of_ble_eq_true rfl) (Nat.le_of_ble_eq_true rfl) (Nat.zero_le _) (Nat.zero_le _) d_So_usesAt_23 ?_
    refine lv_topi (fun x_1 ex_1 => ?_)
    refine lv_i2l hx hb d_So_usesAt_26 rfl ?_
    refine lv_topl (fun x_2 ex_2 => ?_)
    refine lv_ladd hx hb d_So_usesAt_27 ?_
    refine lv_topl (fun x_3 ex_3 => ?_)
    rw [show x_3 = eUses f p0 (i + 1) from by rw [ex_3, ex_2, ex_1]; rfl]
    refine lv_lstore_n (lv' := [(2, .long (eUses f p0 (i + 1))), (0, .ref (ad r)), (1, .int p0), (4, .int (nI i))]) hx hb d_So_usesAt_28 rfl hl (by decide) rfl (fun ls hl => ?_)
    refine lv_iinc (v := nI (i + 1)) (lv' := [(4, .int (nI (i + 1))), (2, .long (eUses f p0 (i + 1))), (0, .ref (ad r)), (1, .int p0)]) hx hb d_So_usesAt_29 hl (k := 3) rfl (nI_1 _) (by decide) rfl (fun ls hl => ?_)
    refine lv_goto (tgt := 5) hx hb d_So_usesAt_32 (by decide) ?_
    exact ih5 (i + 1) ls H locs (⟨by omega, by omega, trivial⟩) (lv_sub hl [2, 3, 1, 0] rfl) hm

set_option maxHeartbeats 4000000 in
set_option maxRecDepth 100000 in
theorem c_So_isBetter (l : Launch) (D : va_G) (dA : Nat → ClassId) (ad : Nat → Nat) (G : mG) (sz : Nat) (r rl : Nat) (nu lc : Int32) (lim : Int64) (ch fa : Int32) (f : Nat → Int32) (p0 p1 : Int32) (kc : Nat) (hc : lc = nI kc) (hc2 : kc ≤ 40) (hg : G r = some (.inr (3, [.int nu, .ref (ad rl), .int lc, .long lim, .int ch, .int fa]))) (ha : G rl = some (.inl (dA 0, 40, .inl f))) : Met l y_So_isBetter (.code y_So_isBetter b_So_isBetter 7 (some .boolean) :: mBig) ({ frames := 2, cells := 0, slots := 0, locals := 41 }) (mPc [.ref (ad r), .int p0, .int p1] D mCl (mTys dA) mTx ad G sz) (mQi (fun (rv : Int32) (u : mU) => (bv rv (eBetter f ch fa kc p0 p1)) ∧ u = (ad, G)) D mCl ad G sz) 0 0 (mA ad G sz) := by
  refine Met.ofW (cc := b_So_isBetter) (maxL := 7) (ret := (some .boolean)) (by decide) rfl ?_
  intro p e s m args below meth c s₁ B hml hv
  obtain ⟨rfl, hsz, hw0, hC⟩ := hv
  have hx := B.exec
  have hb := B.bytes
  have hr := B.returns
  have hts := atoms_spec (ws := .code y_So_isBetter b_So_isBetter 7 (some .boolean) :: mBig) B.pre
  have hT : ∀ w ∈ mBig, w.before _ s = true := fun w h => hts w (List.mem_cons_of_mem _ h)
  have hown : s.vm.findClass "EdgeWear$Sort" = some m.cls := findClass_of_methodNamed B.named
  have hlocks := B.notSynchronized
  subst hsz
  have hm := mS.start hw0
  have hA : ∀ q : Nat, s.heap.size ≤ q → mA ad G s.heap.size q := fun q h => Or.inr h
  have hl := lv_entry ([.ref (ad r), .int p0, .int p1]) (n := 7) (Nat.le_of_ble_eq_true rfl)
  rw [lg_entry_eq]
  generalize (lg_sl ([.ref (ad r), .int p0, .int p1]) ++ List.replicate (7 - (lg_sl ([.ref (ad r), .int p0, .int p1])).length) Slot.unset).toArray = ls at hl ⊢
  have hl : lv_has ls 7 [(0, .ref (ad r)), (1, .int p0), (2, .int p1)] := hl
  refine lv_aload_n hx hb d_So_isBetter_0 rfl (lv_at hl 0 rfl) ?_
  refine lv_iload_n hx hb d_So_isBetter_1 rfl (lv_at hl 1 rfl) ?_
  refine m_rol (m_runV (As := [.int p0]) (rest := []) ⟨hx, hb, hml, hown, hts⟩ (c_So_costAt l D dA ad G s.heap.size r rl nu lc lim ch fa f p0 kc hc hc2 hg ha) (cwV 1 hts (gV k_430 k_427 k_428 k_429 k_2) rfl rfl rfl (by decide +kernel) ⟨Nat.le_of_ble_eq_true rfl, Nat.le_of_ble_eq_true rfl⟩) hm hA hC r rfl hg rfl rfl rfl hl.1 rfl (Nat.le_of_ble_eq_true rfl) d_So_isBetter_2 ⟨Nat.le_of_ble_eq_true rfl, Nat.le_of_ble_eq_true rfl⟩) hm hA (fun r_1 H locs w_2 hm => ?_)
  refine lv_aload_n hx hb d_So_isBetter_5 rfl (lv_at hl 0 rfl) ?_
  refine lv_iload_n hx hb d_So_isBetter_6 rfl (lv_at hl 2 rfl) ?_
  refine m_rol (m_runV (As := [.int p1]) (rest := [.long r_1]) ⟨hx, hb, hml, hown, hts⟩ (c_So_usesAt l D dA ad G H.size r rl nu lc lim ch fa f p1 kc hc hc2 hg ha) (cwV 1 hts (gV k_434 k_431 k_432 k_433 k_2) rfl rfl rfl (by decide +kernel) ⟨Nat.le_of_ble_eq_true rfl, Nat.le_of_ble_eq_true rfl⟩) hm hA hC r rfl hg rfl rfl rfl hl.1 rfl (Nat.le_of_ble_eq_true rfl) d_So_isBetter_7 ⟨Nat.le_of_ble_eq_true rfl, Nat.le_of_ble_eq_true rfl⟩) hm hA (fun r_3 H locs w_4 hm => ?_)
  refine lv_lmul hx hb d_So_isBetter_10 ?_
  refine lv_topl (fun x_5 ex_5 => ?_)
  refine lv_lstore_n (lv' := [(3, .long x_5), (0, .ref (ad r)), (1, .int p0), (2, .int p1)]) hx hb d_So_isBetter_11 rfl hl (by decide) rfl (fun ls hl => ?_)
  refine lv_aload_n hx hb d_So_isBetter_12 rfl (lv_at hl 1 rfl) ?_
  refine lv_iload_n hx hb d_So_isBetter_13 rfl (lv_at hl 3 rfl) ?_
  refine m_rol (m_runV (As := [.int p1]) (rest := []) ⟨hx, hb, hml, hown, hts⟩ (c_So_costAt l D dA ad G H.size r rl nu lc lim ch fa f p1 kc hc hc2 hg ha) (cwV 1 hts (gV k_430 k_427 k_428 k_429 k_2) rfl rfl rfl (by decide +kernel) ⟨Nat.le_of_ble_eq_true rfl, Nat.le_of_ble_eq_true rfl⟩) hm hA hC r rfl hg rfl rfl rfl hl.1 rfl (Nat.le_of_ble_eq_true rfl) d_So_isBetter_14 ⟨Nat.le_of_ble_eq_true rfl, Nat.le_of_ble_eq_true rfl⟩) hm hA (fun r_6 H locs w_7 hm => ?_)
  refine lv_aload_n hx hb d_So_isBetter_17 rfl (lv_at hl 1 rfl) ?_
  refine lv_iload_n hx hb d_So_isBetter_18 rfl (lv_at hl 2 rfl) ?_
  refine m_rol (m_runV (As := [.int p0]) (rest := [.long r_6]) ⟨hx, hb, hml, hown, hts⟩ (c_So_usesAt l D dA ad G H.size r rl nu lc lim ch fa f p0 kc hc hc2 hg ha) (cwV 1 hts (gV k_434 k_431 k_432 k_433 k_2) rfl rfl rfl (by decide +kernel) ⟨Nat.le_of_ble_eq_true rfl, Nat.le_of_ble_eq_true rfl⟩) hm hA hC r rfl hg rfl rfl rfl hl.1 rfl (Nat.le_of_ble_eq_true rfl) d_So_isBetter_19 ⟨Nat.le_of_ble_eq_true rfl, Nat.le_of_ble_eq_true rfl⟩) hm hA (fun r_8 H locs w_9 hm => ?_)
  refine lv_lmul hx hb d_So_isBetter_22 ?_
  refine lv_topl (fun x_10 ex_10 => ?_)
  refine lv_lstore (lv' := [(5, .long x_10), (3, .long x_5), (0, .ref (ad r)), (1, .int p0), (2, .int p1)]) hx hb d_So_isBetter_23 hl (by decide) rfl (fun ls hl => ?_)
  refine lv_lload_n hx hb d_So_isBetter_25 rfl (lv_at hl 1 rfl) ?_
  refine lv_lload hx hb d_So_isBetter_26 (lv_at hl 0 rfl) ?_
  refine W.lcmp hx hb d_So_isBetter_28 ?_
  refine lv_if_lt (tgt := 44) hx hb d_So_isBetter_29 (by decide) (fun c_29 => ?_) (fun c_29 => ?_)
  · refine lv_iconst (v := 1) hx hb d_So_isBetter_44 (by decide) ?_
    refine lv_goto (tgt := 49) hx hb d_So_isBetter_45 (by decide) ?_
    exact m_zret (v := 1) hx hb hr rfl hm (⟨bv1 (Or.inl (by have h9 := (lg_lt _ _).mp c_29; rw [ex_5, ex_10, w_2, w_4, w_7, w_9] at h9; exact h9)), rfl⟩) d_So_isBetter_49 hlocks
  · refine lv_lload_n hx hb d_So_isBetter_32 rfl (lv_at hl 1 rfl) ?_
    refine lv_lload hx hb d_So_isBetter_33 (lv_at hl 0 rfl) ?_
    refine W.lcmp hx hb d_So_isBetter_35 ?_
    refine lv_if_ne (tgt := 48) hx hb d_So_isBetter_36 (by decide) (fun c_36 => ?_) (fun c_36 => ?_)
    · refine lv_iconst (v := 0) hx hb d_So_isBetter_48 (by decide) ?_
      exact m_zret (v := 0) hx hb hr rfl hm (⟨bv0 (fun h => h.elim (fun h => by have h9 := fun q => c_29 ((lg_lt _ _).mpr q); rw [ex_5, ex_10, w_2, w_4, w_7, w_9] at h9; exact h9 h) (fun h => by have h9 := fun q => c_36 ((lg_eq _ _).mpr q); rw [ex_5, ex_10, w_2, w_4, w_7, w_9] at h9; exact h9 h.1)), rfl⟩) d_So_isBetter_49 hlocks
    · refine lv_iload_n hx hb d_So_isBetter_39 rfl (lv_at hl 3 rfl) ?_
      refine lv_iload_n hx hb d_So_isBetter_40 rfl (lv_at hl 4 rfl) ?_
      refine lv_icmp_le (tgt := 48) hx hb d_So_isBetter_41 (by decide) (fun c_41 => ?_) (fun c_41 => ?_)
      · refine lv_iconst (v := 0) hx hb d_So_isBetter_48 (by decide) ?_
        exact m_zret (v := 0) hx hb hr rfl hm (⟨bv0 (fun h => h.elim (fun h => by have h9 := fun q => c_29 ((lg_lt _ _).mpr q); rw [ex_5, ex_10, w_2, w_4, w_7, w_9] at h9; exact h9 h) (fun h => Int32.not_lt.mpr c_41 h.2)), rfl⟩) d_So_isBetter_49 hlocks
      · refine lv_iconst (v := 1) hx hb d_So_isBetter_44 (by decide) ?_
        refine lv_goto (tgt := 49) hx hb d_So_isBetter_45 (by decide) ?_
        exact m_zret (v := 1) hx hb hr rfl hm (⟨bv1 (Or.inr ⟨by have h9 := (lg_eq _ _).mp c_36; rw [ex_5, ex_10, w_2, w_4, w_7, w_9] at h9; exact h9, Int32.not_le.mp c_41⟩), rfl⟩) d_So_isBetter_49 hlocks

set_option maxHeartbeats 4000000 in
set_option maxRecDepth 100000 in
theorem c_So_bestUses (l : Launch) (D : va_G) (dA : Nat → ClassId) (ad : Nat → Nat) (G : mG) (sz : Nat) (r rl : Nat) (nu lc : Int32) (lim : Int64) (ch fa : Int32) (f : Nat → Int32) (kc : Nat) (hc : lc = nI kc) (hc2 : kc ≤ 40) (hc1 : 1 ≤ kc) (hg : G r = some (.inr (3, [.int nu, .ref (ad rl), .int lc, .long lim, .int ch, .int fa]))) (ha : G rl = some (.inl (dA 0, 40, .inl f))) : Met l y_So_bestUses (.code y_So_bestUses b_So_bestUses 3 (some .int) :: mBig) ({ frames := 3, cells := 0, slots := 0, locals := 67 }) (mPc [.ref (ad r)] D mCl (mTys dA) mTx ad G sz) (mQi (fun (rv : Int32) (u : mU) => (rv = eBest f ch fa kc (kc - 1)) ∧ u = (ad, G)) D mCl ad G sz) 0 0 (mA ad G sz) := by
  refine Met.ofW (cc := b_So_bestUses) (maxL := 3) (ret := (some .int)) (by decide) rfl ?_
  intro p e s m args below meth c s₁ B hml hv
  obtain ⟨rfl, hsz, hw0, hC⟩ := hv
  have hx := B.exec
  have hb := B.bytes
  have hr := B.returns
  have hts := atoms_spec (ws := .code y_So_bestUses b_So_bestUses 3 (some .int) :: mBig) B.pre
  have hT : ∀ w ∈ mBig, w.before _ s = true := fun w h => hts w (List.mem_cons_of_mem _ h)
  have hown : s.vm.findClass "EdgeWear$Sort" = some m.cls := findClass_of_methodNamed B.named
  have hlocks := B.notSynchronized
  subst hsz
  have hm := mS.start hw0
  have hA : ∀ q : Nat, s.heap.size ≤ q → mA ad G s.heap.size q := fun q h => Or.inr h
  have hl := lv_entry ([.ref (ad r)]) (n := 3) (Nat.le_of_ble_eq_true rfl)
  rw [lg_entry_eq]
  generalize (lg_sl ([.ref (ad r)]) ++ List.replicate (3 - (lg_sl ([.ref (ad r)])).length) Slot.unset).toArray = ls at hl ⊢
  have hl : lv_has ls 3 [(0, .ref (ad r))] := hl
  refine lv_aload_n hx hb d_So_bestUses_0 rfl (lv_at hl 0 rfl) ?_
  refine m_get (v := .ref (ad rl)) (C := R_So) (T := T_So) (N := 6) hx hb hT in_So hown hC.1 hm r rfl hg rfl 1 (by decide) (hT _ k_35) (fun _ h9 => h9) rfl d_So_bestUses_1 ?_
  refine lv_iconst (v := 0) hx hb d_So_bestUses_4 (by decide) ?_
  refine m_iald (v := f 0) hx hb hC.1 hm rl rfl 0 ha rfl (vpc _ _ (by decide)) rfl d_So_bestUses_5 ?_
  refine lv_istore_n (lv' := [(1, .int (f 0)), (0, .ref (ad r))]) hx hb d_So_bestUses_6 rfl hl (by decide) rfl (fun ls hl => ?_)
  refine lv_iconst (v := 1) hx hb d_So_bestUses_7 (by decide) ?_
  refine lv_istore_n (lv' := [(2, .int 1), (1, .int (f 0)), (0, .ref (ad r))]) hx hb d_So_bestUses_8 rfl hl (by decide) rfl (fun ls hl => ?_)
  refine m_loopH (nL := 3) (head := 9) (fun (q9 : Nat) => fun (x : Nat) => match x with | j => q9 + j = kc ∧ j + 1 ≤ kc ∧ True) (fun (x : Nat) => match x with | j => [(0, .ref (ad r)), (1, .int (eBest f ch fa kc j)), (2, .int (nI (j + 1)))]) (fun _ => G) (fun j h => by have h1 := h.1; have h2 := h.2.1; omega) (fun q9 x ls H locs hI hl hm ih9 => ?_) (kc - 1) (0) (⟨by omega, by omega, trivial⟩) (lv_sub hl [2, 1, 0] rfl) hm
  obtain ⟨j, ej⟩ : ∃ z, z = x := ⟨_, rfl⟩
  subst ej
  replace hI : (fun (q9 : Nat) => q9 + j = kc ∧ j + 1 ≤ kc ∧ True) (q9 + 1) := hI
  have hl : lv_has ls 3 [(0, .ref (ad r)), (1, .int (eBest f ch fa kc j)), (2, .int (nI (j + 1)))] := hl
  refine lv_iload_n hx hb d_So_bestUses_9 rfl (lv_at hl 2 rfl) ?_
  refine lv_aload_n hx hb d_So_bestUses_10 rfl (lv_at hl 0 rfl) ?_
  refine m_get (v := .int lc) (C := R_So) (T := T_So) (N := 6) hx hb hT in_So hown hC.1 hm r rfl hg rfl 2 (by decide) (hT _ k_37) (fun _ h9 => h9) rfl d_So_bestUses_11 ?_
  refine lv_icmp_ge (tgt := 44) hx hb d_So_bestUses_14 (by decide) (fun c_14 => ?_) (fun c_14 => ?_)
  · have hge : kc - 1 = j := by
      have h9 := c_14
      rw [hc] at h9
      have := (nI_leI (by omega) (by omega)).mp h9
      omega
    refine lv_iload_n hx hb d_So_bestUses_44 rfl (lv_at hl 1 rfl) ?_
    exact m_iret (v := eBest f ch fa kc j) hx hb hr hm (⟨by rw [hge], rfl⟩) d_So_bestUses_45 hlocks
  · have hlt : j + 1 < kc := by
      have h9 := c_14
      rw [hc] at h9
      exact Nat.not_le.mp (fun q => h9 (nI_le q (by omega)))
    refine lv_aload_n hx hb d_So_bestUses_17 rfl (lv_at hl 0 rfl) ?_
    refine lv_aload_n hx hb d_So_bestUses_18 rfl (lv_at hl 0 rfl) ?_
    refine m_get (v := .ref (ad rl)) (C := R_So) (T := T_So) (N := 6) hx hb hT in_So hown hC.1 hm r rfl hg rfl 1 (by decide) (hT _ k_35) (fun _ h9 => h9) rfl d_So_bestUses_19 ?_
    refine lv_iload_n hx hb d_So_bestUses_22 rfl (lv_at hl 2 rfl) ?_
    refine m_iald (v := f (j + 1)) hx hb hC.1 hm rl rfl 0 ha rfl (vp_in_nI (by omega) (by decide)) (by rw [nI_clamp (by omega)]) d_So_bestUses_23 ?_
    refine lv_iload_n hx hb d_So_bestUses_24 rfl (lv_at hl 1 rfl) ?_
    refine m_roi (m_runV (As := [.int (f (j + 1)), .int (eBest f ch fa kc j)]) (rest := []) ⟨hx, hb, hml, hown, hts⟩ (c_So_isBetter l D dA ad G H.size r rl nu lc lim ch fa f (f (j + 1)) (eBest f ch fa kc j) kc hc hc2 hg ha) (cwV 2 hts (gV k_426 k_423 k_424 k_425 k_2) rfl rfl rfl (by decide +kernel) ⟨Nat.le_of_ble_eq_true rfl, Nat.le_of_ble_eq_true rfl⟩) hm hA hC r rfl hg rfl rfl rfl hl.1 rfl (Nat.le_of_ble_eq_true rfl) d_So_bestUses_25 ⟨Nat.le_of_ble_eq_true rfl, Nat.le_of_ble_eq_true rfl⟩) hm hA (fun r_1 H locs w_2 hm => ?_)
    refine lv_if_eq (tgt := 38) hx hb d_So_bestUses_28 (by decide) (fun c_28 => ?_) (fun c_28 => ?_)
    · have hl : lv_has ls 3 [(0, .ref (ad r)), (1, .int (eBest f ch fa kc (j + 1))), (2, .int (nI (j + 1)))] := by rw [show eBest f ch fa kc (j + 1) = eBest f ch fa kc j from eBest_neg (bv_eq w_2 c_28)]; exact hl
      refine lv_iinc (v := nI ((j + 1) + 1)) (lv' := [(2, .int (nI ((j + 1) + 1))), (0, .ref (ad r)), (1, .int (eBest f ch fa kc (j + 1)))]) hx hb d_So_bestUses_38 hl (k := 2) rfl (nI_1 _) (by decide) rfl (fun ls hl => ?_)
      refine lv_goto (tgt := 9) hx hb d_So_bestUses_41 (by decide) ?_
      exact ih9 (j + 1) ls H locs (⟨by omega, by omega, trivial⟩) (lv_sub hl [1, 2, 0] rfl) hm
    · refine lv_aload_n hx hb d_So_bestUses_31 rfl (lv_at hl 0 rfl) ?_
      refine m_get (v := .ref (ad rl)) (C := R_So) (T := T_So) (N := 6) hx hb hT in_So hown hC.1 hm r rfl hg rfl 1 (by decide) (hT _ k_35) (fun _ h9 => h9) rfl d_So_bestUses_32 ?_
      refine lv_iload_n hx hb d_So_bestUses_35 rfl (lv_at hl 2 rfl) ?_
      refine m_iald (v := f (j + 1)) hx hb hC.1 hm rl rfl 0 ha rfl (vp_in_nI (by omega) (by decide)) (by rw [nI_clamp (by omega)]) d_So_bestUses_36 ?_
      refine lv_istore_n (lv' := [(1, .int (f (j + 1))), (0, .ref (ad r)), (2, .int (nI (j + 1)))]) hx hb d_So_bestUses_37 rfl hl (by decide) rfl (fun ls hl => ?_)
      have hl : lv_has ls 3 [(1, .int (eBest f ch fa kc (j + 1))), (0, .ref (ad r)), (2, .int (nI (j + 1)))] := by rw [show eBest f ch fa kc (j + 1) = f (j + 1) from eBest_pos (bv_ne w_2 c_28)]; exact hl
      refine lv_iinc (v := nI ((j + 1) + 1)) (lv' := [(2, .int (nI ((j + 1) + 1))), (1, .int (eBest f ch fa kc (j + 1))), (0, .ref (ad r))]) hx hb d_So_bestUses_38 hl (k := 2) rfl (nI_1 _) (by decide) rfl (fun ls hl => ?_)
      refine lv_goto (tgt := 9) hx hb d_So_bestUses_41 (by decide) ?_
      exact ih9 (j + 1) ls H locs (⟨by omega, by omega, trivial⟩) (lv_sub hl [2, 1, 0] rfl) hm
end
section
section MCOPY
variable {p : Program} {l : Launch} {e : Env} {R : Room} {s : State} {m : MethodId} {args : Array Value} {below : List Frame} {meth : Method} {c : Code} {H : Heap} {cells slots : Nat} {Q : State → Prop}
variable {cc : ByteArray} {pc : Nat} {ls : Array Slot} {rest : List Value} {D : va_G} {cl : List vw_C} {A : Nat → Prop} {a : Nat} {tys : List (ClassId × FieldType)} {ad : Nat → Nat} {G : mG}
/-- a copy within one array of ints, when nothing has been written yet -/
theorem m_copy0 (hexec : p.tables.exec = Jvm.exec) (hb : c.code = cc) (hml : c.maxLocals = ls.size) {own : String} {index : Nat} (hown : s.vm.findClass own = some m.cls) (hlink : (Cond.methodLink own index arraycopyName).before args s = true) (hnat : (Cond.native arraycopyName).before args s = true) (hstat : (Cond.static arraycopyName).before args s = true) (hini : (Cond.initialized "java/lang/System").before args s = true)
    (hK : va_K D cl tys s) (hm : mS D cl A H ad G H []) (r : Nat) (ea : a = ad r) (t0 : Nat) {cA : ClassId} {n0 : Nat} {f : Nat → Int32} (ha : G r = some (.inl (cA, n0, .inl f))) (ht : tys[t0]? = some (cA, .int))
    {sp dp n : Int32} (h1 : ¬ sp < 0) (h2 : ¬ dp < 0) (h3 : ¬ n < 0) (h4 : sp.toNatClampNeg + n.toNatClampNeg ≤ n0) (h5 : dp.toNatClampNeg + n.toNatClampNeg ≤ n0)
    (hframes : 1 ≤ R.frames) (hlocals : (rest.map fun v => v.category).sum + (nativeFrameWords "java/lang/System" "arraycopy" 5 + 11) ≤ R.locals) (hdg : decode cc pc = .ok (.invokestatic index, 3))
    (kk : ∀ (H1 : Heap) (locs1 : List Loc), mS D cl A H ad (va_up G r (some (.inl (cA, n0, .inl (va_cpy f f sp.toNatClampNeg dp.toNatClampNeg n.toNatClampNeg))))) H1 locs1 → W p l e R s m args below meth c H1 locs1 cells slots Q (F0 m (pc + 3) ls rest)) : W p l e R s m args below meth c H [] cells slots Q (F0 m pc ls (.int n :: .int dp :: .ref a :: .int sp :: .ref a :: rest)) := by
  subst ea
  have hD : va_D (fun q => q = ad r) [(ad r, (.inl (cA, n0, .inl f) : va_E))] := by
    refine ⟨fun i j p q hi hj _ => ?_, fun k q hk => ?_⟩
    · have e1 : i < 1 := (List.getElem?_eq_some_iff.mp hi).1
      have e2 : j < 1 := (List.getElem?_eq_some_iff.mp hj).1
      omega
    · have e1 : k < 1 := (List.getElem?_eq_some_iff.mp hk).1
      rw [show k = 0 by omega] at hk
      cases hk
      rfl
  refine va_copyi hexec hb hml hown hlink hnat hstat hini hK (hm.one ha) hD (va_S.rf (A := fun q => q = ad r) (H0 := H)) 0 0 t0 t0 rfl rfl ht ht rfl h1 h2 h3 h4 h5 (fun i _ => rfl) hframes hlocals hdg (fun H1 locs1 hP1 hD1 hS1 => ?_)
  refine kk H1 locs1 ⟨⟨fun r' e' h' => ?_, fun r1 r2 e1 e2 g1 g2 hh => ?_⟩, fun r' e' h' => ?_, hS1.1, fun q q1 q2 => hS1.2.1 q q1 (fun e9 => q2 (by rw [e9]; exact hm.2.1 r _ ha)), fun q hq => by rw [hS1.2.2 q hq]; exact hm.2.1 r _ ha⟩
  · by_cases hr : r' = r
    · subst hr
      rw [va_up_self] at h'
      cases h'
      exact hP1 0 _ rfl
    · rw [va_up_ne _ _ hr] at h'
      exact (hm.1.1 r' e' h').kept (hS1.2.1 _ (hm.1.1 r' e' h').lt (fun q => hr (hm.1.2 _ _ _ _ h' ha q)))
  · have f9 : ∀ (r' : Nat) (e' : va_E), va_up G r (some (.inl (cA, n0, .inl (va_cpy f f sp.toNatClampNeg dp.toNatClampNeg n.toNatClampNeg)))) r' = some e' → ∃ e'' : va_E, G r' = some e'' := by
      intro r' e' h'
      by_cases hr : r' = r
      · exact ⟨_, by rw [hr]; exact ha⟩
      · rw [va_up_ne _ _ hr] at h'
        exact ⟨e', h'⟩
    obtain ⟨e3, h3⟩ := f9 r1 e1 g1
    obtain ⟨e4, h4⟩ := f9 r2 e2 g2
    exact hm.1.2 _ _ _ _ h3 h4 hh
  · by_cases hr : r' = r
    · rw [hr]; exact hm.2.1 r _ ha
    · rw [va_up_ne _ _ hr] at h'
      exact hm.2.1 r' e' h'
end MCOPY
/-- what fires: the first of four -/
def eFire (rv : Int32) (P0 P1 P2 P3 : Prop) : Prop := (rv = 0 ∧ P0) ∨ (rv = 1 ∧ ¬ P0 ∧ P1) ∨ (rv = 2 ∧ ¬ P0 ∧ ¬ P1 ∧ P2) ∨ (rv = 3 ∧ ¬ P0 ∧ ¬ P1 ∧ ¬ P2 ∧ P3) ∨ (rv = -1 ∧ ¬ P0 ∧ ¬ P1 ∧ ¬ P2 ∧ ¬ P3)
theorem up3 {α : Type} (f : Nat → α) {k j : Nat} (v w u : α) (h : k ≠ j) : va_up (va_up (va_up f k v) j w) k u = va_up (va_up f j w) k u := by
  funext x
  unfold va_up
  by_cases h1 : x = k
  · simp [h1]
  · by_cases h2 : x = j
    · simp [h1, h2, Ne.symm h]
    · simp [h1, h2]
theorem upc {α : Type} (f : Nat → α) {k j : Nat} (v w : α) (h : k ≠ j) : va_up (va_up f k v) j w = va_up (va_up f j w) k v := by
  funext x
  unfold va_up
  by_cases h1 : x = k
  · simp [h1, h]
  · simp [h1]
end
section
set_option maxHeartbeats 4000000 in
set_option maxRecDepth 100000 in
theorem c_Rd_add (l : Launch) (D : va_G) (dA : Nat → ClassId) (ad : Nat → Nat) (G : mG) (sz : Nat) (r rl : Nat) (cn lm : Int32) (f : Nat → Int32) (p0 p1 : Int32) (hne : r ≠ rl) (hg : G r = some (.inr (1, [.ref (ad rl), .int cn, .int lm]))) (ha : G rl = some (.inl (dA 0, 24, .inl f))) : Met l y_Rd_add (.code y_Rd_add b_Rd_add 3 none :: mBig) ({ frames := 1, cells := 0, slots := 0, locals := 60 }) (mPc [.ref (ad r), .int p0, .int p1] D mCl (mTys dA) mTx ad G sz) (mQv (fun (u : mU) => (u = (ad, va_up (va_up G rl (some (.inl (dA 0, 24, .inl (upd (va_cpy f f 0 1 23) 0 p1))))) r (some (.inr (1, [.ref (ad rl), .int (if 24 < cn + 1 then 24 else cn + 1), .int p0])))))) D mCl ad G sz) 0 0 (mA ad G sz) := by
  refine Met.ofW (cc := b_Rd_add) (maxL := 3) (ret := none) (by decide) rfl ?_
  intro p e s m args below meth c s₁ B hml hv
  obtain ⟨rfl, hsz, hw0, hC⟩ := hv
  have hx := B.exec
  have hb := B.bytes
  have hr := B.returns
  have hts := atoms_spec (ws := .code y_Rd_add b_Rd_add 3 none :: mBig) B.pre
  have hT : ∀ w ∈ mBig, w.before _ s = true := fun w h => hts w (List.mem_cons_of_mem _ h)
  have hown : s.vm.findClass "EdgeWear$Readings" = some m.cls := findClass_of_methodNamed B.named
  have hlocks := B.notSynchronized
  subst hsz
  have hm := mS.start hw0
  have hA : ∀ q : Nat, s.heap.size ≤ q → mA ad G s.heap.size q := fun q h => Or.inr h
  have hl := lv_entry ([.ref (ad r), .int p0, .int p1]) (n := 3) (Nat.le_of_ble_eq_true rfl)
  rw [lg_entry_eq]
  generalize (lg_sl ([.ref (ad r), .int p0, .int p1]) ++ List.replicate (3 - (lg_sl ([.ref (ad r), .int p0, .int p1])).length) Slot.unset).toArray = ls at hl ⊢
  have hl : lv_has ls 3 [(0, .ref (ad r)), (1, .int p0), (2, .int p1)] := hl
  refine lv_aload_n hx hb d_Rd_add_0 rfl (lv_at hl 0 rfl) ?_
  refine m_get (v := .ref (ad rl)) (C := R_Rd) (T := T_Rd) (N := 3) hx hb hT in_Rd hown hC.1 hm r rfl hg rfl 0 (by decide) (hT _ k_245) (fun _ h9 => h9) rfl d_Rd_add_1 ?_
  refine lv_iconst (v := 0) hx hb d_Rd_add_4 (by decide) ?_
  refine lv_aload_n hx hb d_Rd_add_5 rfl (lv_at hl 0 rfl) ?_
  refine m_get (v := .ref (ad rl)) (C := R_Rd) (T := T_Rd) (N := 3) hx hb hT in_Rd hown hC.1 hm r rfl hg rfl 0 (by decide) (hT _ k_245) (fun _ h9 => h9) rfl d_Rd_add_6 ?_
  refine lv_iconst (v := 1) hx hb d_Rd_add_9 (by decide) ?_
  refine lv_bipush (v := 23) hx hb d_Rd_add_10 (by decide) ?_
  refine m_copy0 hx hb (by rw [hml]; exact hl.1.symm) hown (hT _ k_495) (hT _ k_497) (hT _ k_496) (hT _ k_14) hC.1 hm rl rfl 0 ha rfl (by decide) (by decide) (by decide) (by decide) (by decide) (Nat.le_of_ble_eq_true rfl) (Nat.le_of_ble_eq_true rfl) d_Rd_add_12 (fun H locs hm => ?_)
  obtain ⟨G_1, eG_1⟩ : ∃ z : mG, z = va_up G rl (some (.inl (dA 0, 24, .inl (va_cpy f f 0 1 23)))) := ⟨_, rfl⟩
  have hm : mS D mCl (mA ad G s.heap.size) s.heap ad G_1 H locs := by rw [eG_1]; exact hm
  have g_2 := (congrFun eG_1 r).trans ((va_up_ne _ _ (hne)).trans hg)
  have g_3 : G_1 rl = some (.inl (dA 0, 24, .inl (va_cpy f f 0 1 23))) := by rw [eG_1, va_up_self]
  refine lv_aload_n hx hb d_Rd_add_15 rfl (lv_at hl 0 rfl) ?_
  refine m_get (v := .ref (ad rl)) (C := R_Rd) (T := T_Rd) (N := 3) hx hb hT in_Rd hown hC.1 hm r rfl g_2 rfl 0 (by decide) (hT _ k_245) (fun _ h9 => h9) rfl d_Rd_add_16 ?_
  refine lv_iconst (v := 0) hx hb d_Rd_add_19 (by decide) ?_
  refine lv_iload_n hx hb d_Rd_add_20 rfl (lv_at hl 2 rfl) ?_
  refine m_iast hx hb hC.1 hm rl rfl 0 g_3 rfl (vpc _ _ (by decide)) d_Rd_add_21 (fun H locs hm => ?_)
  obtain ⟨G_4, eG_4⟩ : ∃ z : mG, z = va_up G_1 rl (some (.inl ((dA 0), 24, .inl (upd (va_cpy f f 0 1 23) 0 p1)))) := ⟨_, rfl⟩
  have hm : mS D mCl (mA ad G s.heap.size) s.heap ad G_4 H locs := by rw [eG_4]; exact hm
  have g_5 := (congrFun eG_4 r).trans ((va_up_ne _ _ (hne)).trans g_2)
  have g_6 : G_4 rl = some (.inl ((dA 0), 24, .inl (upd (va_cpy f f 0 1 23) 0 p1))) := by rw [eG_4, va_up_self]
  refine lv_aload_n hx hb d_Rd_add_22 rfl (lv_at hl 0 rfl) ?_
  refine lv_aload_n hx hb d_Rd_add_23 rfl (lv_at hl 0 rfl) ?_
  refine m_get (v := .int cn) (C := R_Rd) (T := T_Rd) (N := 3) hx hb hT in_Rd hown hC.1 hm r rfl g_5 rfl 1 (by decide) (hT _ k_246) (fun _ h9 => h9) rfl d_Rd_add_24 ?_
  refine lv_iconst (v := 1) hx hb d_Rd_add_27 (by decide) ?_
  refine lv_iadd hx hb d_Rd_add_28 ?_
  refine lv_topi (fun x_7 ex_7 => ?_)
  refine lv_bipush (v := 24) hx hb d_Rd_add_29 (by decide) ?_
  refine va_mmin hx hb (by rw [hml]; exact hl.1.symm) hown (hT _ k_498) (hT _ k_436) (hT _ k_13) (hT _ k_437) (Nat.le_of_ble_eq_true rfl) (Nat.le_of_ble_eq_true rfl) (Nat.zero_le _) (Nat.zero_le _) d_Rd_add_31 ?_
  refine lv_topi (fun x_8 ex_8 => ?_)
  refine m_put (v := .int x_8) (ty := .int) (C := R_Rd) (T := T_Rd) (N := 3) hx hb hT in_Rd t_Rd tok_Rd nm_Rd hown hC.1 hm r rfl g_5 rfl 1 (by decide) (hT _ k_246) (fun _ h9 => h9) rfl (by decide +kernel) rfl rfl (Nat.le_of_ble_eq_true rfl) d_Rd_add_34 (fun H locs hm => ?_)
  obtain ⟨G_9, eG_9⟩ : ∃ z : mG, z = va_up G_4 r (some (.inr (1, [.ref (ad rl), .int x_8, .int lm]))) := ⟨_, rfl⟩
  have hm : mS D mCl (mA ad G s.heap.size) s.heap ad G_9 H locs := by rw [eG_9]; exact hm
  have g_10 : G_9 r = some (.inr (1, [.ref (ad rl), .int x_8, .int lm])) := by rw [eG_9, va_up_self]
  have g_11 := (congrFun eG_9 rl).trans ((va_up_ne _ _ (Ne.symm hne)).trans g_6)
  refine lv_aload_n hx hb d_Rd_add_37 rfl (lv_at hl 0 rfl) ?_
  refine lv_iload_n hx hb d_Rd_add_38 rfl (lv_at hl 1 rfl) ?_
  refine m_put (v := .int p0) (ty := .int) (C := R_Rd) (T := T_Rd) (N := 3) hx hb hT in_Rd t_Rd tok_Rd nm_Rd hown hC.1 hm r rfl g_10 rfl 2 (by decide) (hT _ k_247) (fun _ h9 => h9) rfl (by decide +kernel) rfl rfl (Nat.le_of_ble_eq_true rfl) d_Rd_add_39 (fun H locs hm => ?_)
  obtain ⟨G_12, eG_12⟩ : ∃ z : mG, z = va_up G_9 r (some (.inr (1, [.ref (ad rl), .int x_8, .int p0]))) := ⟨_, rfl⟩
  have hm : mS D mCl (mA ad G s.heap.size) s.heap ad G_12 H locs := by rw [eG_12]; exact hm
  have g_13 : G_12 r = some (.inr (1, [.ref (ad rl), .int x_8, .int p0])) := by rw [eG_12, va_up_self]
  have g_14 := (congrFun eG_12 rl).trans ((va_up_ne _ _ (Ne.symm hne)).trans g_11)
  exact m_vret hx hb hr hm (by simp only [eG_12, eG_9, ex_8, ex_7, eG_4, eG_1, bx_uu]) d_Rd_add_42 hlocks

set_option maxHeartbeats 4000000 in
set_option maxRecDepth 100000 in
theorem c_Ru_firstThatTells (l : Launch) (D : va_G) (dA : Nat → ClassId) (ad : Nat → Nat) (G : mG) (sz : Nat) (r : Nat) (hi ru mi ju : Int32) (r2 rl : Nat) (cn lm : Int32) (f : Nat → Int32) (k : Nat) (hk : ru = nI k) (hk1 : 1 ≤ k) (hk2 : k ≤ 24) (hg : G r = some (.inr (2, [.int hi, .int ru, .int mi, .int ju]))) (hg2 : G r2 = some (.inr (1, [.ref (ad rl), .int cn, .int lm]))) (ha : G rl = some (.inl (dA 0, 24, .inl f))) : Met l y_Ru_firstThatTells (.code y_Ru_firstThatTells b_Ru_firstThatTells 2 (some .int) :: mBig) ({ frames := 3, cells := 0, slots := 0, locals := 57 }) (mPc [.ref (ad r), .ref (ad r2)] D mCl (mTys dA) mTx ad G sz) (mQi (fun (rv : Int32) (u : mU) => (eFire rv (hi < f 0) (nI k ≤ cn ∧ ∀ i, i + 1 < k → f (i + 1) < f i) (nI k ≤ cn ∧ ∀ i, i < k → mi < f i) (3 ≤ cn ∧ ju < (if 0 ≤ f 0 - f 1 then f 0 - f 1 else 0 - (f 0 - f 1)) + (if 0 ≤ f 1 - f 2 then f 1 - f 2 else 0 - (f 1 - f 2)))) ∧ u = (ad, G)) D mCl ad G sz) 0 0 (mA ad G sz) := by
  refine Met.ofW (cc := b_Ru_firstThatTells) (maxL := 2) (ret := (some .int)) (by decide) rfl ?_
  intro p e s m args below meth c s₁ B hml hv
  obtain ⟨rfl, hsz, hw0, hC⟩ := hv
  have hx := B.exec
  have hb := B.bytes
  have hr := B.returns
  have hts := atoms_spec (ws := .code y_Ru_firstThatTells b_Ru_firstThatTells 2 (some .int) :: mBig) B.pre
  have hT : ∀ w ∈ mBig, w.before _ s = true := fun w h => hts w (List.mem_cons_of_mem _ h)
  have hown : s.vm.findClass "EdgeWear$Rules" = some m.cls := findClass_of_methodNamed B.named
  have hlocks := B.notSynchronized
  subst hsz
  have hm := mS.start hw0
  have hA : ∀ q : Nat, s.heap.size ≤ q → mA ad G s.heap.size q := fun q h => Or.inr h
  have hl := lv_entry ([.ref (ad r), .ref (ad r2)]) (n := 2) (Nat.le_of_ble_eq_true rfl)
  rw [lg_entry_eq]
  generalize (lg_sl ([.ref (ad r), .ref (ad r2)]) ++ List.replicate (2 - (lg_sl ([.ref (ad r), .ref (ad r2)])).length) Slot.unset).toArray = ls at hl ⊢
  have hl : lv_has ls 2 [(0, .ref (ad r)), (1, .ref (ad r2))] := hl
  refine lv_aload_n hx hb d_Ru_firstThatTells_0 rfl (lv_at hl 1 rfl) ?_
  refine lv_aload_n hx hb d_Ru_firstThatTells_1 rfl (lv_at hl 0 rfl) ?_
  refine m_get (v := .int hi) (C := R_Ru) (T := T_Ru) (N := 4) hx hb hT in_Ru hown hC.1 hm r rfl hg rfl 0 (by decide) (hT _ k_70) (fun _ h9 => h9) rfl d_Ru_firstThatTells_2 ?_
  refine m_roi (m_runV (As := [.int hi]) (rest := []) ⟨hx, hb, hml, hown, hts⟩ (c_Rd_isAbove l D dA ad G s.heap.size r2 rl cn lm f hi hg2 ha) (cwV 1 hts (gV k_506 k_503 k_504 k_505 k_12) rfl rfl rfl (by decide +kernel) ⟨Nat.le_of_ble_eq_true rfl, Nat.le_of_ble_eq_true rfl⟩) hm hA hC r2 rfl hg2 rfl rfl rfl hl.1 rfl (Nat.le_of_ble_eq_true rfl) d_Ru_firstThatTells_5 ⟨Nat.le_of_ble_eq_true rfl, Nat.le_of_ble_eq_true rfl⟩) hm hA (fun r_1 H locs w_2 hm => ?_)
  refine lv_if_eq (tgt := 13) hx hb d_Ru_firstThatTells_8 (by decide) (fun c_8 => ?_) (fun c_8 => ?_)
  · refine lv_aload_n hx hb d_Ru_firstThatTells_13 rfl (lv_at hl 1 rfl) ?_
    refine lv_aload_n hx hb d_Ru_firstThatTells_14 rfl (lv_at hl 0 rfl) ?_
    refine m_get (v := .int ru) (C := R_Ru) (T := T_Ru) (N := 4) hx hb hT in_Ru hown hC.1 hm r rfl hg rfl 1 (by decide) (hT _ k_72) (fun _ h9 => h9) rfl d_Ru_firstThatTells_15 ?_
    refine m_roi (m_runV (As := [.int ru]) (rest := []) ⟨hx, hb, hml, hown, hts⟩ (c_Rd_isRising l D dA ad G H.size r2 rl cn lm f ru k hk hk1 hk2 hg2 ha) (cwV 1 hts (gV k_510 k_507 k_508 k_509 k_12) rfl rfl rfl (by decide +kernel) ⟨Nat.le_of_ble_eq_true rfl, Nat.le_of_ble_eq_true rfl⟩) hm hA hC r2 rfl hg2 rfl rfl rfl hl.1 rfl (Nat.le_of_ble_eq_true rfl) d_Ru_firstThatTells_18 ⟨Nat.le_of_ble_eq_true rfl, Nat.le_of_ble_eq_true rfl⟩) hm hA (fun r_3 H locs w_4 hm => ?_)
    refine lv_if_eq (tgt := 26) hx hb d_Ru_firstThatTells_21 (by decide) (fun c_21 => ?_) (fun c_21 => ?_)
    · refine lv_aload_n hx hb d_Ru_firstThatTells_26 rfl (lv_at hl 1 rfl) ?_
      refine lv_aload_n hx hb d_Ru_firstThatTells_27 rfl (lv_at hl 0 rfl) ?_
      refine m_get (v := .int mi) (C := R_Ru) (T := T_Ru) (N := 4) hx hb hT in_Ru hown hC.1 hm r rfl hg rfl 2 (by decide) (hT _ k_74) (fun _ h9 => h9) rfl d_Ru_firstThatTells_28 ?_
      refine lv_aload_n hx hb d_Ru_firstThatTells_31 rfl (lv_at hl 0 rfl) ?_
      refine m_get (v := .int ru) (C := R_Ru) (T := T_Ru) (N := 4) hx hb hT in_Ru hown hC.1 hm r rfl hg rfl 1 (by decide) (hT _ k_72) (fun _ h9 => h9) rfl d_Ru_firstThatTells_32 ?_
      refine m_roi (m_runV (As := [.int mi, .int ru]) (rest := []) ⟨hx, hb, hml, hown, hts⟩ (c_Rd_staysAbove l D dA ad G H.size r2 rl cn lm f mi ru k hk hk2 hg2 ha) (cwV 2 hts (gV k_514 k_511 k_512 k_513 k_12) rfl rfl rfl (by decide +kernel) ⟨Nat.le_of_ble_eq_true rfl, Nat.le_of_ble_eq_true rfl⟩) hm hA hC r2 rfl hg2 rfl rfl rfl hl.1 rfl (Nat.le_of_ble_eq_true rfl) d_Ru_firstThatTells_35 ⟨Nat.le_of_ble_eq_true rfl, Nat.le_of_ble_eq_true rfl⟩) hm hA (fun r_5 H locs w_6 hm => ?_)
      refine lv_if_eq (tgt := 43) hx hb d_Ru_firstThatTells_38 (by decide) (fun c_38 => ?_) (fun c_38 => ?_)
      · refine lv_aload_n hx hb d_Ru_firstThatTells_43 rfl (lv_at hl 1 rfl) ?_
        refine lv_aload_n hx hb d_Ru_firstThatTells_44 rfl (lv_at hl 0 rfl) ?_
        refine m_get (v := .int ju) (C := R_Ru) (T := T_Ru) (N := 4) hx hb hT in_Ru hown hC.1 hm r rfl hg rfl 3 (by decide) (hT _ k_76) (fun _ h9 => h9) rfl d_Ru_firstThatTells_45 ?_
        refine m_roi (m_runV (As := [.int ju]) (rest := []) ⟨hx, hb, hml, hown, hts⟩ (c_Rd_isJumping l D dA ad G H.size r2 rl cn lm f ju hg2 ha) (cwV 1 hts (gV k_518 k_515 k_516 k_517 k_12) rfl rfl rfl (by decide +kernel) ⟨Nat.le_of_ble_eq_true rfl, Nat.le_of_ble_eq_true rfl⟩) hm hA hC r2 rfl hg2 rfl rfl rfl hl.1 rfl (Nat.le_of_ble_eq_true rfl) d_Ru_firstThatTells_48 ⟨Nat.le_of_ble_eq_true rfl, Nat.le_of_ble_eq_true rfl⟩) hm hA (fun r_7 H locs w_8 hm => ?_)
        refine lv_if_eq (tgt := 58) hx hb d_Ru_firstThatTells_51 (by decide) (fun c_51 => ?_) (fun c_51 => ?_)
        · refine lv_iconst (v := (-1)) hx hb d_Ru_firstThatTells_58 (by decide) ?_
          exact m_iret (v := (-1)) hx hb hr hm (⟨Or.inr (Or.inr (Or.inr (Or.inr ⟨rfl, bv_eq w_2 c_8, bv_eq w_4 c_21, bv_eq w_6 c_38, bv_eq w_8 c_51⟩))), rfl⟩) d_Ru_firstThatTells_59 hlocks
        · refine lv_iconst (v := 3) hx hb d_Ru_firstThatTells_54 (by decide) ?_
          refine lv_goto (tgt := 59) hx hb d_Ru_firstThatTells_55 (by decide) ?_
          exact m_iret (v := 3) hx hb hr hm (⟨Or.inr (Or.inr (Or.inr (Or.inl ⟨rfl, bv_eq w_2 c_8, bv_eq w_4 c_21, bv_eq w_6 c_38, bv_ne w_8 c_51⟩))), rfl⟩) d_Ru_firstThatTells_59 hlocks
      · refine lv_iconst (v := 2) hx hb d_Ru_firstThatTells_41 (by decide) ?_
        exact m_iret (v := 2) hx hb hr hm (⟨Or.inr (Or.inr (Or.inl ⟨rfl, bv_eq w_2 c_8, bv_eq w_4 c_21, bv_ne w_6 c_38⟩)), rfl⟩) d_Ru_firstThatTells_42 hlocks
    · refine lv_iconst (v := 1) hx hb d_Ru_firstThatTells_24 (by decide) ?_
      exact m_iret (v := 1) hx hb hr hm (⟨Or.inr (Or.inl ⟨rfl, bv_eq w_2 c_8, bv_ne w_4 c_21⟩), rfl⟩) d_Ru_firstThatTells_25 hlocks
  · refine lv_iconst (v := 0) hx hb d_Ru_firstThatTells_11 (by decide) ?_
    exact m_iret (v := 0) hx hb hr hm (⟨Or.inl ⟨rfl, bv_ne w_2 c_8⟩, rfl⟩) d_Ru_firstThatTells_12 hlocks
end
section
set_option maxHeartbeats 4000000 in
set_option maxRecDepth 100000 in
theorem c_Or_init (l : Launch) (D : va_G) (dA : Nat → ClassId) (ad : Nat → Nat) (G : mG) (sz : Nat) (a0 : Nat) (r : Nat) (p0 p1 : Int32) (hz : a0 = ad r) (hg : G r = some (.inr (0, [.int 0, .int 0, .int 0]))) : Met l y_Or_init (.code y_Or_init b_Or_init 3 none :: mBig) ({ frames := 1, cells := 0, slots := 0, locals := 12 }) (mPc [.ref a0, .int p0, .int p1] D mCl (mTys dA) mTx ad G sz) (mQv (fun (u : mU) => (u = (ad, va_up G r (some (.inr (0, [.int p0, .int p1, .int 0])))))) D mCl ad G sz) 0 0 (mA ad G sz) := by
  refine Met.ofW (cc := b_Or_init) (maxL := 3) (ret := none) (by decide) rfl ?_
  intro p e s m args below meth c s₁ B hml hv
  obtain ⟨rfl, hsz, hw0, hC⟩ := hv
  have hx := B.exec
  have hb := B.bytes
  have hr := B.returns
  have hts := atoms_spec (ws := .code y_Or_init b_Or_init 3 none :: mBig) B.pre
  have hT : ∀ w ∈ mBig, w.before _ s = true := fun w h => hts w (List.mem_cons_of_mem _ h)
  have hown : s.vm.findClass "EdgeWear$Order" = some m.cls := findClass_of_methodNamed B.named
  have hlocks := B.notSynchronized
  subst hsz
  have hm := mS.start hw0
  have hin : meth.name = "<init>" := (name_of_methodNamed B.named B.method).1
  have hA : ∀ q : Nat, s.heap.size ≤ q → mA ad G s.heap.size q := fun q h => Or.inr h
  have hl := lv_entry ([.ref a0, .int p0, .int p1]) (n := 3) (Nat.le_of_ble_eq_true rfl)
  rw [lg_entry_eq]
  generalize (lg_sl ([.ref a0, .int p0, .int p1]) ++ List.replicate (3 - (lg_sl ([.ref a0, .int p0, .int p1])).length) Slot.unset).toArray = ls at hl ⊢
  have hl : lv_has ls 3 [(0, .ref a0), (1, .int p0), (2, .int p1)] := hl
  refine lv_aload_n hx hb d_Or_init_0 rfl (lv_at hl 0 rfl) ?_
  refine W.objInit hx hb hown (hT _ k_538) (hT _ k_22) (hT _ k_23) rfl (by rw [hml]; exact hl.1) rfl d_Or_init_1 (Nat.le_of_ble_eq_true rfl) (Nat.le_of_ble_eq_true rfl) ?_
  refine W.eq (g2 := F0 m 4 ls []) rfl ?_
  refine lv_aload_n hx hb d_Or_init_4 rfl (lv_at hl 0 rfl) ?_
  refine lv_iload_n hx hb d_Or_init_5 rfl (lv_at hl 1 rfl) ?_
  refine m_putF (v := .int p0) (ty := .int) (C := R_Or) (T := T_Or) (N := 3) hx hb hT in_Or t_Or tok_Or nm_Or hown hC.1 hm r hz hg rfl 0 (by decide) (hT _ k_539) (fun _ h9 => h9) rfl hin rfl (by decide +kernel) rfl rfl (Nat.le_of_ble_eq_true rfl) d_Or_init_6 (fun H locs hm => ?_)
  obtain ⟨G_1, eG_1⟩ : ∃ z : mG, z = va_up G r (some (.inr (0, [.int p0, .int 0, .int 0]))) := ⟨_, rfl⟩
  have hm : mS D mCl (mA ad G s.heap.size) s.heap ad G_1 H locs := by rw [eG_1]; exact hm
  have g_2 : G_1 r = some (.inr (0, [.int p0, .int 0, .int 0])) := by rw [eG_1, va_up_self]
  refine lv_aload_n hx hb d_Or_init_9 rfl (lv_at hl 0 rfl) ?_
  refine lv_iload_n hx hb d_Or_init_10 rfl (lv_at hl 2 rfl) ?_
  refine m_putF (v := .int p1) (ty := .int) (C := R_Or) (T := T_Or) (N := 3) hx hb hT in_Or t_Or tok_Or nm_Or hown hC.1 hm r hz g_2 rfl 1 (by decide) (hT _ k_540) (fun _ h9 => h9) rfl hin rfl (by decide +kernel) rfl rfl (Nat.le_of_ble_eq_true rfl) d_Or_init_11 (fun H locs hm => ?_)
  obtain ⟨G_3, eG_3⟩ : ∃ z : mG, z = va_up G_1 r (some (.inr (0, [.int p0, .int p1, .int 0]))) := ⟨_, rfl⟩
  have hm : mS D mCl (mA ad G s.heap.size) s.heap ad G_3 H locs := by rw [eG_3]; exact hm
  have g_4 : G_3 r = some (.inr (0, [.int p0, .int p1, .int 0])) := by rw [eG_3, va_up_self]
  exact m_vret hx hb hr hm (by simp only [eG_3, eG_1, bx_uu]) d_Or_init_14 hlocks

set_option maxHeartbeats 4000000 in
set_option maxRecDepth 100000 in
theorem c_Ru_init (l : Launch) (D : va_G) (dA : Nat → ClassId) (ad : Nat → Nat) (G : mG) (sz : Nat) (a0 : Nat) (r : Nat) (hz : a0 = ad r) (hg : G r = some (.inr (2, [.int 0, .int 0, .int 0, .int 0]))) : Met l y_Ru_init (.code y_Ru_init b_Ru_init 1 none :: mBig) ({ frames := 1, cells := 0, slots := 0, locals := 12 }) (mPc [.ref a0] D mCl (mTys dA) mTx ad G sz) (mQv (fun (u : mU) => (u = (ad, va_up G r (some (.inr (2, [.int 1000, .int 4, .int 500, .int 600])))))) D mCl ad G sz) 0 0 (mA ad G sz) := by
  refine Met.ofW (cc := b_Ru_init) (maxL := 1) (ret := none) (by decide) rfl ?_
  intro p e s m args below meth c s₁ B hml hv
  obtain ⟨rfl, hsz, hw0, hC⟩ := hv
  have hx := B.exec
  have hb := B.bytes
  have hr := B.returns
  have hts := atoms_spec (ws := .code y_Ru_init b_Ru_init 1 none :: mBig) B.pre
  have hT : ∀ w ∈ mBig, w.before _ s = true := fun w h => hts w (List.mem_cons_of_mem _ h)
  have hown : s.vm.findClass "EdgeWear$Rules" = some m.cls := findClass_of_methodNamed B.named
  have hlocks := B.notSynchronized
  subst hsz
  have hm := mS.start hw0
  have hin : meth.name = "<init>" := (name_of_methodNamed B.named B.method).1
  have hA : ∀ q : Nat, s.heap.size ≤ q → mA ad G s.heap.size q := fun q h => Or.inr h
  have hl := lv_entry ([.ref a0]) (n := 1) (Nat.le_of_ble_eq_true rfl)
  rw [lg_entry_eq]
  generalize (lg_sl ([.ref a0]) ++ List.replicate (1 - (lg_sl ([.ref a0])).length) Slot.unset).toArray = ls at hl ⊢
  have hl : lv_has ls 1 [(0, .ref a0)] := hl
  refine lv_aload_n hx hb d_Ru_init_0 rfl (lv_at hl 0 rfl) ?_
  refine W.objInit hx hb hown (hT _ k_69) (hT _ k_22) (hT _ k_23) rfl (by rw [hml]; exact hl.1) rfl d_Ru_init_1 (Nat.le_of_ble_eq_true rfl) (Nat.le_of_ble_eq_true rfl) ?_
  refine W.eq (g2 := F0 m 4 ls []) rfl ?_
  refine lv_aload_n hx hb d_Ru_init_4 rfl (lv_at hl 0 rfl) ?_
  refine lv_sipush (v := 1000) hx hb d_Ru_init_5 (by decide) ?_
  refine m_put (v := .int 1000) (ty := .int) (C := R_Ru) (T := T_Ru) (N := 4) hx hb hT in_Ru t_Ru tok_Ru nm_Ru hown hC.1 hm r hz hg rfl 0 (by decide) (hT _ k_70) (fun _ h9 => h9) rfl (by decide +kernel) rfl rfl (Nat.le_of_ble_eq_true rfl) d_Ru_init_8 (fun H locs hm => ?_)
  obtain ⟨G_1, eG_1⟩ : ∃ z : mG, z = va_up G r (some (.inr (2, [.int 1000, .int 0, .int 0, .int 0]))) := ⟨_, rfl⟩
  have hm : mS D mCl (mA ad G s.heap.size) s.heap ad G_1 H locs := by rw [eG_1]; exact hm
  have g_2 : G_1 r = some (.inr (2, [.int 1000, .int 0, .int 0, .int 0])) := by rw [eG_1, va_up_self]
  refine lv_aload_n hx hb d_Ru_init_11 rfl (lv_at hl 0 rfl) ?_
  refine lv_iconst (v := 4) hx hb d_Ru_init_12 (by decide) ?_
  refine m_put (v := .int 4) (ty := .int) (C := R_Ru) (T := T_Ru) (N := 4) hx hb hT in_Ru t_Ru tok_Ru nm_Ru hown hC.1 hm r hz g_2 rfl 1 (by decide) (hT _ k_72) (fun _ h9 => h9) rfl (by decide +kernel) rfl rfl (Nat.le_of_ble_eq_true rfl) d_Ru_init_13 (fun H locs hm => ?_)
  obtain ⟨G_3, eG_3⟩ : ∃ z : mG, z = va_up G_1 r (some (.inr (2, [.int 1000, .int 4, .int 0, .int 0]))) := ⟨_, rfl⟩
  have hm : mS D mCl (mA ad G s.heap.size) s.heap ad G_3 H locs := by rw [eG_3]; exact hm
  have g_4 : G_3 r = some (.inr (2, [.int 1000, .int 4, .int 0, .int 0])) := by rw [eG_3, va_up_self]
  refine lv_aload_n hx hb d_Ru_init_16 rfl (lv_at hl 0 rfl) ?_
  refine lv_sipush (v := 500) hx hb d_Ru_init_17 (by decide) ?_
  refine m_put (v := .int 500) (ty := .int) (C := R_Ru) (T := T_Ru) (N := 4) hx hb hT in_Ru t_Ru tok_Ru nm_Ru hown hC.1 hm r hz g_4 rfl 2 (by decide) (hT _ k_74) (fun _ h9 => h9) rfl (by decide +kernel) rfl rfl (Nat.le_of_ble_eq_true rfl) d_Ru_init_20 (fun H locs hm => ?_)
  obtain ⟨G_5, eG_5⟩ : ∃ z : mG, z = va_up G_3 r (some (.inr (2, [.int 1000, .int 4, .int 500, .int 0]))) := ⟨_, rfl⟩
  have hm : mS D mCl (mA ad G s.heap.size) s.heap ad G_5 H locs := by rw [eG_5]; exact hm
  have g_6 : G_5 r = some (.inr (2, [.int 1000, .int 4, .int 500, .int 0])) := by rw [eG_5, va_up_self]
  refine lv_aload_n hx hb d_Ru_init_23 rfl (lv_at hl 0 rfl) ?_
  refine lv_sipush (v := 600) hx hb d_Ru_init_24 (by decide) ?_
  refine m_put (v := .int 600) (ty := .int) (C := R_Ru) (T := T_Ru) (N := 4) hx hb hT in_Ru t_Ru tok_Ru nm_Ru hown hC.1 hm r hz g_6 rfl 3 (by decide) (hT _ k_76) (fun _ h9 => h9) rfl (by decide +kernel) rfl rfl (Nat.le_of_ble_eq_true rfl) d_Ru_init_27 (fun H locs hm => ?_)
  obtain ⟨G_7, eG_7⟩ : ∃ z : mG, z = va_up G_5 r (some (.inr (2, [.int 1000, .int 4, .int 500, .int 600]))) := ⟨_, rfl⟩
  have hm : mS D mCl (mA ad G s.heap.size) s.heap ad G_7 H locs := by rw [eG_7]; exact hm
  have g_8 : G_7 r = some (.inr (2, [.int 1000, .int 4, .int 500, .int 600])) := by rw [eG_7, va_up_self]
  exact m_vret hx hb hr hm (by simp only [eG_7, eG_5, eG_3, eG_1, bx_uu]) d_Ru_init_30 hlocks

set_option maxHeartbeats 4000000 in
set_option maxRecDepth 100000 in
theorem c_Rd_init (l : Launch) (D : va_G) (dA : Nat → ClassId) (ad : Nat → Nat) (G : mG) (sz : Nat) (a0 : Nat) (r ra : Nat) (hne : r ≠ ra) (hn : G ra = none) (hz : a0 = ad r) (hg : G r = some (.inr (1, [.null, .int 0, .int 0]))) : Met l y_Rd_init (.code y_Rd_init b_Rd_init 1 none :: mBig) ({ frames := 1, cells := 1, slots := 24, locals := 12 }) (mPc [.ref a0] D mCl (mTys dA) mTx ad G sz) (mQv (fun (u : mU) => (∃ q : Nat, u = (va_up ad ra q, va_up (va_up G ra (some (.inl (dA 0, 24, .inl (fun _ => 0))))) r (some (.inr (1, [.ref q, .int 0, .int (-1)])))))) D mCl ad G sz) 1 24 (mA ad G sz) := by
  refine Met.ofW (cc := b_Rd_init) (maxL := 1) (ret := none) (by decide) rfl ?_
  intro p e s m args below meth c s₁ B hml hv
  obtain ⟨rfl, hsz, hw0, hC⟩ := hv
  have hx := B.exec
  have hb := B.bytes
  have hr := B.returns
  have hts := atoms_spec (ws := .code y_Rd_init b_Rd_init 1 none :: mBig) B.pre
  have hT : ∀ w ∈ mBig, w.before _ s = true := fun w h => hts w (List.mem_cons_of_mem _ h)
  have hown : s.vm.findClass "EdgeWear$Readings" = some m.cls := findClass_of_methodNamed B.named
  have hlocks := B.notSynchronized
  subst hsz
  have hm := mS.start hw0
  have hin : meth.name = "<init>" := (name_of_methodNamed B.named B.method).1
  have hA : ∀ q : Nat, s.heap.size ≤ q → mA ad G s.heap.size q := fun q h => Or.inr h
  have hl := lv_entry ([.ref a0]) (n := 1) (Nat.le_of_ble_eq_true rfl)
  rw [lg_entry_eq]
  generalize (lg_sl ([.ref a0]) ++ List.replicate (1 - (lg_sl ([.ref a0])).length) Slot.unset).toArray = ls at hl ⊢
  have hl : lv_has ls 1 [(0, .ref a0)] := hl
  refine lv_aload_n hx hb d_Rd_init_0 rfl (lv_at hl 0 rfl) ?_
  refine W.objInit hx hb hown (hT _ k_244) (hT _ k_22) (hT _ k_23) rfl (by rw [hml]; exact hl.1) rfl d_Rd_init_1 (Nat.le_of_ble_eq_true rfl) (Nat.le_of_ble_eq_true rfl) ?_
  refine W.eq (g2 := F0 m 4 ls []) rfl ?_
  refine lv_aload_n hx hb d_Rd_init_4 rfl (lv_at hl 0 rfl) ?_
  refine lv_bipush (v := 24) hx hb d_Rd_init_5 (by decide) ?_
  refine m_newa (atype := .int) (ty := .int) (a0 := (24, .inl (fun _ => 0))) (cA := (dA 0)) hx hb (hT _ k_59) rfl hm hA ra (hn) (show _ from (hC.1.2 0 _ rfl).2) (fun _ => rfl) (by decide) (by decide) (by decide) (Nat.le_of_ble_eq_true rfl) (Nat.le_of_ble_eq_true rfl) d_Rd_init_7 (fun q_1 H hm => ?_)
  obtain ⟨G_2, eG_2⟩ : ∃ z : mG, z = va_up G ra (some (.inl ((dA 0), 24, .inl (fun _ => 0)))) := ⟨_, rfl⟩
  obtain ⟨ad_3, ead_3⟩ : ∃ z : Nat → Nat, z = va_up ad ra q_1 := ⟨_, rfl⟩
  have hm : mS D mCl (mA ad G s.heap.size) s.heap ad_3 G_2 H [] := by rw [eG_2, ead_3]; exact hm
  have g_4 := (congrFun eG_2 r).trans ((va_up_ne _ _ (hne)).trans hg)
  have g_5 : G_2 ra = some (.inl ((dA 0), 24, .inl (fun _ => 0))) := by rw [eG_2, va_up_self]
  have z_6 : a0 = ad_3 r := by rw [ead_3, va_up_ne _ _ (hne)]; exact hz
  have z_7 : q_1 = ad_3 ra := by rw [ead_3, va_up_self]
  refine m_putF (v := .ref q_1) (ty := (.array .int)) (C := R_Rd) (T := T_Rd) (N := 3) hx hb hT in_Rd t_Rd tok_Rd nm_Rd hown hC.1 hm r z_6 g_4 rfl 0 (by decide) (hT _ k_245) (fun _ h9 => h9) rfl hin rfl (by decide +kernel) rfl rfl (Nat.le_of_ble_eq_true rfl) d_Rd_init_9 (fun H locs hm => ?_)
  obtain ⟨G_8, eG_8⟩ : ∃ z : mG, z = va_up G_2 r (some (.inr (1, [.ref q_1, .int 0, .int 0]))) := ⟨_, rfl⟩
  have hm : mS D mCl (mA ad G s.heap.size) s.heap ad_3 G_8 H locs := by rw [eG_8]; exact hm
  have g_9 : G_8 r = some (.inr (1, [.ref q_1, .int 0, .int 0])) := by rw [eG_8, va_up_self]
  have g_10 := (congrFun eG_8 ra).trans ((va_up_ne _ _ (Ne.symm hne)).trans g_5)
  refine lv_aload_n hx hb d_Rd_init_12 rfl (lv_at hl 0 rfl) ?_
  refine lv_iconst (v := (-1)) hx hb d_Rd_init_13 (by decide) ?_
  refine m_put (v := .int (-1)) (ty := .int) (C := R_Rd) (T := T_Rd) (N := 3) hx hb hT in_Rd t_Rd tok_Rd nm_Rd hown hC.1 hm r z_6 g_9 rfl 2 (by decide) (hT _ k_247) (fun _ h9 => h9) rfl (by decide +kernel) rfl rfl (Nat.le_of_ble_eq_true rfl) d_Rd_init_14 (fun H locs hm => ?_)
  obtain ⟨G_11, eG_11⟩ : ∃ z : mG, z = va_up G_8 r (some (.inr (1, [.ref q_1, .int 0, .int (-1)]))) := ⟨_, rfl⟩
  have hm : mS D mCl (mA ad G s.heap.size) s.heap ad_3 G_11 H locs := by rw [eG_11]; exact hm
  have g_12 : G_11 r = some (.inr (1, [.ref q_1, .int 0, .int (-1)])) := by rw [eG_11, va_up_self]
  have g_13 := (congrFun eG_11 ra).trans ((va_up_ne _ _ (Ne.symm hne)).trans g_10)
  exact m_vret hx hb hr hm (⟨q_1, by simp only [eG_11, eG_8, ead_3, eG_2, bx_uu, up3 _ _ _ _ hne]⟩) d_Rd_init_17 hlocks

set_option maxHeartbeats 4000000 in
set_option maxRecDepth 100000 in
theorem c_So_init (l : Launch) (D : va_G) (dA : Nat → ClassId) (ad : Nat → Nat) (G : mG) (sz : Nat) (a0 : Nat) (r ra : Nat) (p0 : Int32) (hne : r ≠ ra) (hn : G ra = none) (hz : a0 = ad r) (hg : G r = some (.inr (3, [.int 0, .null, .int 0, .long 0, .int 0, .int 0]))) : Met l y_So_init (.code y_So_init b_So_init 2 none :: mBig) ({ frames := 1, cells := 1, slots := 40, locals := 12 }) (mPc [.ref a0, .int p0] D mCl (mTys dA) mTx ad G sz) (mQv (fun (u : mU) => (∃ q : Nat, u = (va_up ad ra q, va_up (va_up G ra (some (.inl (dA 0, 40, .inl (fun _ => 0))))) r (some (.inr (3, [.int p0, .ref q, .int 0, .long 1000000, .int 1, .int 1])))))) D mCl ad G sz) 1 40 (mA ad G sz) := by
  refine Met.ofW (cc := b_So_init) (maxL := 2) (ret := none) (by decide) rfl ?_
  intro p e s m args below meth c s₁ B hml hv
  obtain ⟨rfl, hsz, hw0, hC⟩ := hv
  have hx := B.exec
  have hb := B.bytes
  have hr := B.returns
  have hts := atoms_spec (ws := .code y_So_init b_So_init 2 none :: mBig) B.pre
  have hT : ∀ w ∈ mBig, w.before _ s = true := fun w h => hts w (List.mem_cons_of_mem _ h)
  have hown : s.vm.findClass "EdgeWear$Sort" = some m.cls := findClass_of_methodNamed B.named
  have hlocks := B.notSynchronized
  subst hsz
  have hm := mS.start hw0
  have hin : meth.name = "<init>" := (name_of_methodNamed B.named B.method).1
  have hA : ∀ q : Nat, s.heap.size ≤ q → mA ad G s.heap.size q := fun q h => Or.inr h
  have hl := lv_entry ([.ref a0, .int p0]) (n := 2) (Nat.le_of_ble_eq_true rfl)
  rw [lg_entry_eq]
  generalize (lg_sl ([.ref a0, .int p0]) ++ List.replicate (2 - (lg_sl ([.ref a0, .int p0])).length) Slot.unset).toArray = ls at hl ⊢
  have hl : lv_has ls 2 [(0, .ref a0), (1, .int p0)] := hl
  refine lv_aload_n hx hb d_So_init_0 rfl (lv_at hl 0 rfl) ?_
  refine W.objInit hx hb hown (hT _ k_30) (hT _ k_22) (hT _ k_23) rfl (by rw [hml]; exact hl.1) rfl d_So_init_1 (Nat.le_of_ble_eq_true rfl) (Nat.le_of_ble_eq_true rfl) ?_
  refine W.eq (g2 := F0 m 4 ls []) rfl ?_
  refine lv_aload_n hx hb d_So_init_4 rfl (lv_at hl 0 rfl) ?_
  refine lv_iload_n hx hb d_So_init_5 rfl (lv_at hl 1 rfl) ?_
  refine m_putF (v := .int p0) (ty := .int) (C := R_So) (T := T_So) (N := 6) hx hb hT in_So t_So tok_So nm_So hown hC.1 hm r hz hg rfl 0 (by decide) (hT _ k_32) (fun _ h9 => h9) rfl hin rfl (by decide +kernel) rfl rfl (Nat.le_of_ble_eq_true rfl) d_So_init_6 (fun H locs hm => ?_)
  obtain ⟨G_1, eG_1⟩ : ∃ z : mG, z = va_up G r (some (.inr (3, [.int p0, .null, .int 0, .long 0, .int 0, .int 0]))) := ⟨_, rfl⟩
  have hm : mS D mCl (mA ad G s.heap.size) s.heap ad G_1 H locs := by rw [eG_1]; exact hm
  have g_2 : G_1 r = some (.inr (3, [.int p0, .null, .int 0, .long 0, .int 0, .int 0])) := by rw [eG_1, va_up_self]
  refine lv_aload_n hx hb d_So_init_9 rfl (lv_at hl 0 rfl) ?_
  refine lv_bipush (v := 40) hx hb d_So_init_10 (by decide) ?_
  refine m_newa (atype := .int) (ty := .int) (a0 := (40, .inl (fun _ => 0))) (cA := (dA 0)) hx hb (hT _ k_59) rfl hm hA ra (by rw [eG_1, va_up_ne _ _ (Ne.symm hne)]; exact hn) (show _ from (hC.1.2 0 _ rfl).2) (fun _ => rfl) (by decide) (by decide) (by decide) (Nat.le_of_ble_eq_true rfl) (Nat.le_of_ble_eq_true rfl) d_So_init_12 (fun q_3 H hm => ?_)
  obtain ⟨G_4, eG_4⟩ : ∃ z : mG, z = va_up G_1 ra (some (.inl ((dA 0), 40, .inl (fun _ => 0)))) := ⟨_, rfl⟩
  obtain ⟨ad_5, ead_5⟩ : ∃ z : Nat → Nat, z = va_up ad ra q_3 := ⟨_, rfl⟩
  have hm : mS D mCl (mA ad G s.heap.size) s.heap ad_5 G_4 H locs := by rw [eG_4, ead_5]; exact hm
  have g_6 := (congrFun eG_4 r).trans ((va_up_ne _ _ (hne)).trans g_2)
  have g_7 : G_4 ra = some (.inl ((dA 0), 40, .inl (fun _ => 0))) := by rw [eG_4, va_up_self]
  have z_8 : a0 = ad_5 r := by rw [ead_5, va_up_ne _ _ (hne)]; exact hz
  have z_9 : q_3 = ad_5 ra := by rw [ead_5, va_up_self]
  refine m_putF (v := .ref q_3) (ty := (.array .int)) (C := R_So) (T := T_So) (N := 6) hx hb hT in_So t_So tok_So nm_So hown hC.1 hm r z_8 g_6 rfl 1 (by decide) (hT _ k_35) (fun _ h9 => h9) rfl hin rfl (by decide +kernel) rfl rfl (Nat.le_of_ble_eq_true rfl) d_So_init_14 (fun H locs hm => ?_)
  obtain ⟨G_10, eG_10⟩ : ∃ z : mG, z = va_up G_4 r (some (.inr (3, [.int p0, .ref q_3, .int 0, .long 0, .int 0, .int 0]))) := ⟨_, rfl⟩
  have hm : mS D mCl (mA ad G s.heap.size) s.heap ad_5 G_10 H locs := by rw [eG_10]; exact hm
  have g_11 : G_10 r = some (.inr (3, [.int p0, .ref q_3, .int 0, .long 0, .int 0, .int 0])) := by rw [eG_10, va_up_self]
  have g_12 := (congrFun eG_10 ra).trans ((va_up_ne _ _ (Ne.symm hne)).trans g_7)
  refine lv_aload_n hx hb d_So_init_17 rfl (lv_at hl 0 rfl) ?_
  refine lv_ldc2 (v := 1000000) hx hb hown (hT _ k_31) d_So_init_18 ?_
  refine m_put (v := .long 1000000) (ty := .long) (C := R_So) (T := T_So) (N := 6) hx hb hT in_So t_So tok_So nm_So hown hC.1 hm r z_8 g_11 rfl 3 (by decide) (hT _ k_39) (fun _ h9 => h9) rfl (by decide +kernel) rfl rfl (Nat.le_of_ble_eq_true rfl) d_So_init_21 (fun H locs hm => ?_)
  obtain ⟨G_13, eG_13⟩ : ∃ z : mG, z = va_up G_10 r (some (.inr (3, [.int p0, .ref q_3, .int 0, .long 1000000, .int 0, .int 0]))) := ⟨_, rfl⟩
  have hm : mS D mCl (mA ad G s.heap.size) s.heap ad_5 G_13 H locs := by rw [eG_13]; exact hm
  have g_14 : G_13 r = some (.inr (3, [.int p0, .ref q_3, .int 0, .long 1000000, .int 0, .int 0])) := by rw [eG_13, va_up_self]
  have g_15 := (congrFun eG_13 ra).trans ((va_up_ne _ _ (Ne.symm hne)).trans g_12)
  refine lv_aload_n hx hb d_So_init_24 rfl (lv_at hl 0 rfl) ?_
  refine lv_iconst (v := 1) hx hb d_So_init_25 (by decide) ?_
  refine m_put (v := .int 1) (ty := .int) (C := R_So) (T := T_So) (N := 6) hx hb hT in_So t_So tok_So nm_So hown hC.1 hm r z_8 g_14 rfl 4 (by decide) (hT _ k_42) (fun _ h9 => h9) rfl (by decide +kernel) rfl rfl (Nat.le_of_ble_eq_true rfl) d_So_init_26 (fun H locs hm => ?_)
  obtain ⟨G_16, eG_16⟩ : ∃ z : mG, z = va_up G_13 r (some (.inr (3, [.int p0, .ref q_3, .int 0, .long 1000000, .int 1, .int 0]))) := ⟨_, rfl⟩
  have hm : mS D mCl (mA ad G s.heap.size) s.heap ad_5 G_16 H locs := by rw [eG_16]; exact hm
  have g_17 : G_16 r = some (.inr (3, [.int p0, .ref q_3, .int 0, .long 1000000, .int 1, .int 0])) := by rw [eG_16, va_up_self]
  have g_18 := (congrFun eG_16 ra).trans ((va_up_ne _ _ (Ne.symm hne)).trans g_15)
  refine lv_aload_n hx hb d_So_init_29 rfl (lv_at hl 0 rfl) ?_
  refine lv_iconst (v := 1) hx hb d_So_init_30 (by decide) ?_
  refine m_put (v := .int 1) (ty := .int) (C := R_So) (T := T_So) (N := 6) hx hb hT in_So t_So tok_So nm_So hown hC.1 hm r z_8 g_17 rfl 5 (by decide) (hT _ k_44) (fun _ h9 => h9) rfl (by decide +kernel) rfl rfl (Nat.le_of_ble_eq_true rfl) d_So_init_31 (fun H locs hm => ?_)
  obtain ⟨G_19, eG_19⟩ : ∃ z : mG, z = va_up G_16 r (some (.inr (3, [.int p0, .ref q_3, .int 0, .long 1000000, .int 1, .int 1]))) := ⟨_, rfl⟩
  have hm : mS D mCl (mA ad G s.heap.size) s.heap ad_5 G_19 H locs := by rw [eG_19]; exact hm
  have g_20 : G_19 r = some (.inr (3, [.int p0, .ref q_3, .int 0, .long 1000000, .int 1, .int 1])) := by rw [eG_19, va_up_self]
  have g_21 := (congrFun eG_19 ra).trans ((va_up_ne _ _ (Ne.symm hne)).trans g_18)
  exact m_vret hx hb hr hm (⟨q_3, by simp only [eG_19, eG_16, eG_13, eG_10, ead_5, eG_4, eG_1, bx_uu, up3 _ _ _ _ hne]⟩) d_So_init_34 hlocks

set_option maxHeartbeats 4000000 in
set_option maxRecDepth 100000 in
theorem c_To_init (l : Launch) (D : va_G) (dA : Nat → ClassId) (ad : Nat → Nat) (G : mG) (sz : Nat) (a0 : Nat) (r rr ra rs : Nat) (p0 p1 : Int32) (h1 : r ≠ rr) (h2 : r ≠ ra) (h3 : rr ≠ ra) (n1 : G rr = none) (n2 : G ra = none) (hz : a0 = ad r) (hg : G r = some (.inr (4, [.null, .int 0, .null, .int 0, .long 0, .long 0, .long 0, .int 0, .int 0]))) : Met l y_To_init (.code y_To_init b_To_init 4 none :: mBig) ({ frames := 2, cells := 2, slots := 27, locals := 32 }) (mPc [.ref a0, .ref (ad rs), .int p0, .int p1] D mCl (mTys dA) mTx ad G sz) (mQv (fun (u : mU) => (∃ q1 q2 : Nat, u = (va_up (va_up ad rr q1) ra q2, va_up (va_up (va_up G rr (some (.inr (1, [.ref q2, .int 0, .int (-1)])))) ra (some (.inl (dA 0, 24, .inl (fun _ => 0))))) r (some (.inr (4, [.ref (ad rs), .int p1, .ref q1, .int p0, .long 0, .long 0, .long 0, .int 0, .int 0])))))) D mCl ad G sz) 2 27 (mA ad G sz) := by
  refine Met.ofW (cc := b_To_init) (maxL := 4) (ret := none) (by decide) rfl ?_
  intro p e s m args below meth c s₁ B hml hv
  obtain ⟨rfl, hsz, hw0, hC⟩ := hv
  have hx := B.exec
  have hb := B.bytes
  have hr := B.returns
  have hts := atoms_spec (ws := .code y_To_init b_To_init 4 none :: mBig) B.pre
  have hT : ∀ w ∈ mBig, w.before _ s = true := fun w h => hts w (List.mem_cons_of_mem _ h)
  have hown : s.vm.findClass "EdgeWear$Tool" = some m.cls := findClass_of_methodNamed B.named
  have hlocks := B.notSynchronized
  subst hsz
  have hm := mS.start hw0
  have hin : meth.name = "<init>" := (name_of_methodNamed B.named B.method).1
  have hA : ∀ q : Nat, s.heap.size ≤ q → mA ad G s.heap.size q := fun q h => Or.inr h
  have hl := lv_entry ([.ref a0, .ref (ad rs), .int p0, .int p1]) (n := 4) (Nat.le_of_ble_eq_true rfl)
  rw [lg_entry_eq]
  generalize (lg_sl ([.ref a0, .ref (ad rs), .int p0, .int p1]) ++ List.replicate (4 - (lg_sl ([.ref a0, .ref (ad rs), .int p0, .int p1])).length) Slot.unset).toArray = ls at hl ⊢
  have hl : lv_has ls 4 [(0, .ref a0), (1, .ref (ad rs)), (2, .int p0), (3, .int p1)] := hl
  refine lv_aload_n hx hb d_To_init_0 rfl (lv_at hl 0 rfl) ?_
  refine W.objInit hx hb hown (hT _ k_238) (hT _ k_22) (hT _ k_23) rfl (by rw [hml]; exact hl.1) rfl d_To_init_1 (Nat.le_of_ble_eq_true rfl) (Nat.le_of_ble_eq_true rfl) ?_
  refine W.eq (g2 := F0 m 4 ls []) rfl ?_
  refine lv_aload_n hx hb d_To_init_4 rfl (lv_at hl 0 rfl) ?_
  refine lv_aload_n hx hb d_To_init_5 rfl (lv_at hl 1 rfl) ?_
  refine m_putF (v := .ref (ad rs)) (ty := (.object "EdgeWear$Sort")) (C := R_To) (T := T_To) (N := 9) hx hb hT in_To t_To tok_To nm_To hown hC.1 hm r hz hg rfl 0 (by decide) (hT _ k_256) (fun _ h9 => h9) rfl hin rfl (by decide +kernel) rfl rfl (Nat.le_of_ble_eq_true rfl) d_To_init_6 (fun H locs hm => ?_)
  obtain ⟨G_1, eG_1⟩ : ∃ z : mG, z = va_up G r (some (.inr (4, [.ref (ad rs), .int 0, .null, .int 0, .long 0, .long 0, .long 0, .int 0, .int 0]))) := ⟨_, rfl⟩
  have hm : mS D mCl (mA ad G s.heap.size) s.heap ad G_1 H locs := by rw [eG_1]; exact hm
  have g_2 : G_1 r = some (.inr (4, [.ref (ad rs), .int 0, .null, .int 0, .long 0, .long 0, .long 0, .int 0, .int 0])) := by rw [eG_1, va_up_self]
  refine lv_aload_n hx hb d_To_init_9 rfl (lv_at hl 0 rfl) ?_
  refine lv_iload_n hx hb d_To_init_10 rfl (lv_at hl 2 rfl) ?_
  refine m_put (v := .int p0) (ty := .int) (C := R_To) (T := T_To) (N := 9) hx hb hT in_To t_To tok_To nm_To hown hC.1 hm r hz g_2 rfl 3 (by decide) (hT _ k_261) (fun _ h9 => h9) rfl (by decide +kernel) rfl rfl (Nat.le_of_ble_eq_true rfl) d_To_init_11 (fun H locs hm => ?_)
  obtain ⟨G_3, eG_3⟩ : ∃ z : mG, z = va_up G_1 r (some (.inr (4, [.ref (ad rs), .int 0, .null, .int p0, .long 0, .long 0, .long 0, .int 0, .int 0]))) := ⟨_, rfl⟩
  have hm : mS D mCl (mA ad G s.heap.size) s.heap ad G_3 H locs := by rw [eG_3]; exact hm
  have g_4 : G_3 r = some (.inr (4, [.ref (ad rs), .int 0, .null, .int p0, .long 0, .long 0, .long 0, .int 0, .int 0])) := by rw [eG_3, va_up_self]
  refine lv_aload_n hx hb d_To_init_14 rfl (lv_at hl 0 rfl) ?_
  refine lv_iload_n hx hb d_To_init_15 rfl (lv_at hl 3 rfl) ?_
  refine m_putF (v := .int p1) (ty := .int) (C := R_To) (T := T_To) (N := 9) hx hb hT in_To t_To tok_To nm_To hown hC.1 hm r hz g_4 rfl 1 (by decide) (hT _ k_258) (fun _ h9 => h9) rfl hin rfl (by decide +kernel) rfl rfl (Nat.le_of_ble_eq_true rfl) d_To_init_16 (fun H locs hm => ?_)
  obtain ⟨G_5, eG_5⟩ : ∃ z : mG, z = va_up G_3 r (some (.inr (4, [.ref (ad rs), .int p1, .null, .int p0, .long 0, .long 0, .long 0, .int 0, .int 0]))) := ⟨_, rfl⟩
  have hm : mS D mCl (mA ad G s.heap.size) s.heap ad G_5 H locs := by rw [eG_5]; exact hm
  have g_6 : G_5 r = some (.inr (4, [.ref (ad rs), .int p1, .null, .int p0, .long 0, .long 0, .long 0, .int 0, .int 0])) := by rw [eG_5, va_up_self]
  refine lv_aload_n hx hb d_To_init_19 rfl (lv_at hl 0 rfl) ?_
  refine m_new (ci := 1) (fs := [.null, .int 0, .int 0]) (C := R_Rd) (T := T_Rd) (N := 3) hx hb hT in_Rd t_Rd tok_Rd hown (hT _ k_239) (hT _ k_240) (hT _ k_12) hC.1 hm hA rr (by rw [eG_5, va_up_ne _ _ (Ne.symm h1), eG_3, va_up_ne _ _ (Ne.symm h1), eG_1, va_up_ne _ _ (Ne.symm h1)]; exact n1) rfl (fun j hj => by rcases (show j = 0 ∨ j = 1 ∨ j = 2 by omega) with rfl | rfl | rfl <;> rfl) (Nat.le_of_ble_eq_true rfl) (Nat.le_of_ble_eq_true rfl) d_To_init_20 (fun q_7 H hm => ?_)
  obtain ⟨G_8, eG_8⟩ : ∃ z : mG, z = va_up G_5 rr (some (.inr (1, [.null, .int 0, .int 0]))) := ⟨_, rfl⟩
  obtain ⟨ad_9, ead_9⟩ : ∃ z : Nat → Nat, z = va_up ad rr q_7 := ⟨_, rfl⟩
  have hm : mS D mCl (mA ad G s.heap.size) s.heap ad_9 G_8 H locs := by rw [eG_8, ead_9]; exact hm
  have g_10 := (congrFun eG_8 r).trans ((va_up_ne _ _ (h1)).trans g_6)
  have g_11 : G_8 rr = some (.inr (1, [.null, .int 0, .int 0])) := by rw [eG_8, va_up_self]
  have z_12 : a0 = ad_9 r := by rw [ead_9, va_up_ne _ _ (h1)]; exact hz
  have z_13 : q_7 = ad_9 rr := by rw [ead_9, va_up_self]
  refine lv_dup hx hb d_To_init_23 rfl ?_
  refine m_callv (m_runI (As := []) (rest := [.ref q_7, .ref a0]) ⟨hx, hb, hml, hown, hts⟩ (c_Rd_init l D dA ad_9 G_8 H.size q_7 rr ra (h3) (by rw [eG_8, va_up_ne _ _ (Ne.symm h3), eG_5, va_up_ne _ _ (Ne.symm h2), eG_3, va_up_ne _ _ (Ne.symm h2), eG_1, va_up_ne _ _ (Ne.symm h2)]; exact n2) (z_13) g_11) (cwI 0 hts (gI k_243) rfl rfl rfl (hT _ k_12) (hT _ k_241) (hT _ k_242) rfl (by decide +kernel) ⟨Nat.le_of_ble_eq_true rfl, Nat.le_of_ble_eq_true rfl⟩) hm hA hC rfl hl.1 rfl (Nat.le_of_ble_eq_true rfl) d_To_init_24 ⟨Nat.le_of_ble_eq_true rfl, Nat.le_of_ble_eq_true rfl⟩) hm hA (fun ad_17 G_16 H locs w_15 hm => ?_)
  obtain ⟨q_18, u_19⟩ := w_15
  obtain ⟨ead_17, eG_16⟩ := Prod.mk.inj u_19
  have g_20 := (congrFun eG_16 r).trans ((va_up_ne _ _ (h1)).trans ((va_up_ne _ _ (h2)).trans g_10))
  have g_21 : G_16 rr = some (.inr (1, [.ref q_18, .int 0, .int (-1)])) := by rw [eG_16, va_up_self]
  have g_22 : G_16 ra = some (.inl (dA 0, 24, .inl (fun _ => 0))) := by rw [eG_16, va_up_ne _ _ (Ne.symm h3), va_up_self]
  have z_23 : a0 = ad_17 r := by rw [ead_17, va_up_ne _ _ (h2)]; exact z_12
  have z_24 : q_7 = ad_17 rr := by rw [ead_17, va_up_ne _ _ (h3)]; exact z_13
  have z_25 : q_18 = ad_17 ra := by rw [ead_17, va_up_self]
  refine m_putF (v := .ref q_7) (ty := (.object "EdgeWear$Readings")) (C := R_To) (T := T_To) (N := 9) hx hb hT in_To t_To tok_To nm_To hown hC.1 hm r z_23 g_20 rfl 2 (by decide) (hT _ k_259) (fun _ h9 => h9) rfl hin rfl (by decide +kernel) rfl rfl (Nat.le_of_ble_eq_true rfl) d_To_init_27 (fun H locs hm => ?_)
  obtain ⟨G_26, eG_26⟩ : ∃ z : mG, z = va_up G_16 r (some (.inr (4, [.ref (ad rs), .int p1, .ref q_7, .int p0, .long 0, .long 0, .long 0, .int 0, .int 0]))) := ⟨_, rfl⟩
  have hm : mS D mCl (mA ad G s.heap.size) s.heap ad_17 G_26 H locs := by rw [eG_26]; exact hm
  have g_27 : G_26 r = some (.inr (4, [.ref (ad rs), .int p1, .ref q_7, .int p0, .long 0, .long 0, .long 0, .int 0, .int 0])) := by rw [eG_26, va_up_self]
  have g_28 := (congrFun eG_26 rr).trans ((va_up_ne _ _ (Ne.symm h1)).trans g_21)
  have g_29 := (congrFun eG_26 ra).trans ((va_up_ne _ _ (Ne.symm h2)).trans g_22)
  exact m_vret hx hb hr hm (⟨q_7, q_18, by
    simp only [eG_26, ead_17, eG_16, ead_9, eG_8, eG_5, eG_3, eG_1, bx_uu]
    refine Prod.ext rfl ?_
    funext x
    have k1 := Ne.symm h1
    have k2 := Ne.symm h2
    have k3 := Ne.symm h3
    by_cases q1 : x = r
    · simp [va_up, q1]
    · by_cases q2 : x = rr
      · simp [va_up, q2, h1, h2, h3, k1, k2, k3]
      · by_cases q3 : x = ra
        · simp [va_up, q3, h1, h2, h3, k1, k2, k3]
        · simp [va_up, q1, q2, q3]⟩) d_To_init_30 hlocks
end
section
def up2 {α : Type} (f : Nat → Nat → α) (a i : Nat) (v : α) : Nat → Nat → α := fun b j => if b = a ∧ j = i then v else f b j
theorem up2_id {α : Type} (f : Nat → Nat → α) (a i : Nat) : up2 f a i (f a i) = f := by
  funext b j
  unfold up2
  by_cases h : b = a ∧ j = i
  · rw [if_pos h, h.1, h.2]
  · rw [if_neg h]
theorem up2_self {α : Type} (f : Nat → Nat → α) (a i : Nat) (v : α) : up2 f a i v a i = v := by simp [up2]
theorem up2_row {α : Type} (f : Nat → Nat → α) {a b : Nat} (i : Nat) (v : α) (h : b ≠ a) : up2 f a i v b = f b := by
  funext j
  simp [up2, h]
theorem up2_ne {α : Type} (f : Nat → Nat → α) {a b i j : Nat} (v : α) (h : ¬ (b = a ∧ j = i)) : up2 f a i v b j = f b j := if_neg h
theorem up2_i2 {α : Type} (f : Nat → Nat → α) {a b i : Nat} (v : α) (h : b ≠ a) : up2 (up2 f a i v) b i (f b i) = up2 f a i v := by
  have e : f b i = up2 f a i v b i := (up2_ne f v (fun q => h q.1)).symm
  rw [e]
  exact up2_id _ _ _
theorem up2_i3 {α : Type} (f : Nat → Nat → α) {a b d i : Nat} (v w : α) (h : d ≠ a) (h2 : d ≠ b) : up2 (up2 (up2 f a i v) b i w) d i (f d i) = up2 (up2 f a i v) b i w := by
  have e : f d i = up2 (up2 f a i v) b i w d i := by rw [up2_ne _ _ (fun q => h2 q.1), up2_ne _ _ (fun q => h q.1)]
  rw [e]
  exact up2_id _ _ _
theorem up2_upd (f : Nat → Nat → Int32) (a i : Nat) (v : Int32) : up2 f a i v a = upd (f a) i v := by
  funext j
  simp [up2, upd]
def gE (dA : Nat → ClassId) (ad : Nat → Nat) (I : Nat → Nat → Int32) (J : Nat → Nat → Int64) (F : Nat → Nat → Nat → Int32) (si : Nat → Nat) (tc oc : Nat) (G0 : mG) : mG := fun r =>
  if r < 1000 then
    if r = 0 then some (.inr (5, [.int (I 0 0), .ref (ad 1), .ref (ad 2), .ref (ad 3), .ref (ad 4), .ref (ad 5), .int (nI tc), .int (nI oc)])) else
    if r = 1 then some (.inl (dA 0, 16, .inl (I 1))) else
    if r = 2 then some (.inl (dA 3, 4, .inr (.inr (.inr (.inr (fun i => some (ad (10 + i)))))))) else
    if r = 3 then some (.inl (dA 4, 12, .inr (.inr (.inr (.inr (fun i => if i < tc then some (ad (100 + i)) else none)))))) else
    if r = 4 then some (.inl (dA 5, 16, .inr (.inr (.inr (.inr (fun i => if i < oc then some (ad (400 + i)) else none)))))) else
    if r = 5 then some (.inr (2, [.int (I 0 1), .int (I 0 2), .int (I 0 3), .int (I 0 4)])) else
    if r < 10 then none else
    if r < 14 then some (.inr (3, [.int (nI (r - 10)), .ref (ad (20 + (r - 10))), .int (I 2 (r - 10)), .long (J 0 (r - 10)), .int (I 3 (r - 10)), .int (I 4 (r - 10))])) else
    if r < 20 then none else
    if r < 24 then some (.inl (dA 0, 40, .inl (F 0 (r - 20)))) else
    if r < 100 then none else
    if r < 100 + tc then some (.inr (4, [.ref (ad (10 + si (r - 100))), .int (I 6 (r - 100)), .ref (ad (200 + (r - 100))), .int (I 5 (r - 100)), .long (J 1 (r - 100)), .long (J 2 (r - 100)), .long (J 3 (r - 100)), .int (I 7 (r - 100)), .int (I 8 (r - 100))])) else
    if r < 200 then none else
    if r < 200 + tc then some (.inr (1, [.ref (ad (300 + (r - 200))), .int (I 9 (r - 200)), .int (I 10 (r - 200))])) else
    if r < 300 then none else
    if r < 300 + tc then some (.inl (dA 0, 24, .inl (F 1 (r - 300)))) else
    if r < 400 then none else
    if r < 400 + oc then some (.inr (0, [.int (I 11 (r - 400)), .int (I 12 (r - 400)), .int (I 13 (r - 400))])) else
    none
  else G0 r
theorem gE_c0 {dA : Nat → ClassId} {ad : Nat → Nat} {I : Nat → Nat → Int32} {J : Nat → Nat → Int64} {F : Nat → Nat → Nat → Int32} {si : Nat → Nat} {tc oc : Nat} {G0 : mG} : gE dA ad I J F si tc oc G0 0 = some (.inr (5, [.int (I 0 0), .ref (ad 1), .ref (ad 2), .ref (ad 3), .ref (ad 4), .ref (ad 5), .int (nI tc), .int (nI oc)])) := rfl
theorem gE_c1 {dA : Nat → ClassId} {ad : Nat → Nat} {I : Nat → Nat → Int32} {J : Nat → Nat → Int64} {F : Nat → Nat → Nat → Int32} {si : Nat → Nat} {tc oc : Nat} {G0 : mG} : gE dA ad I J F si tc oc G0 1 = some (.inl (dA 0, 16, .inl (I 1))) := rfl
theorem gE_c2 {dA : Nat → ClassId} {ad : Nat → Nat} {I : Nat → Nat → Int32} {J : Nat → Nat → Int64} {F : Nat → Nat → Nat → Int32} {si : Nat → Nat} {tc oc : Nat} {G0 : mG} : gE dA ad I J F si tc oc G0 2 = some (.inl (dA 3, 4, .inr (.inr (.inr (.inr (fun i => some (ad (10 + i)))))))) := rfl
theorem gE_c3 {dA : Nat → ClassId} {ad : Nat → Nat} {I : Nat → Nat → Int32} {J : Nat → Nat → Int64} {F : Nat → Nat → Nat → Int32} {si : Nat → Nat} {tc oc : Nat} {G0 : mG} : gE dA ad I J F si tc oc G0 3 = some (.inl (dA 4, 12, .inr (.inr (.inr (.inr (fun i => if i < tc then some (ad (100 + i)) else none)))))) := rfl
theorem gE_c4 {dA : Nat → ClassId} {ad : Nat → Nat} {I : Nat → Nat → Int32} {J : Nat → Nat → Int64} {F : Nat → Nat → Nat → Int32} {si : Nat → Nat} {tc oc : Nat} {G0 : mG} : gE dA ad I J F si tc oc G0 4 = some (.inl (dA 5, 16, .inr (.inr (.inr (.inr (fun i => if i < oc then some (ad (400 + i)) else none)))))) := rfl
theorem gE_c5 {dA : Nat → ClassId} {ad : Nat → Nat} {I : Nat → Nat → Int32} {J : Nat → Nat → Int64} {F : Nat → Nat → Nat → Int32} {si : Nat → Nat} {tc oc : Nat} {G0 : mG} : gE dA ad I J F si tc oc G0 5 = some (.inr (2, [.int (I 0 1), .int (I 0 2), .int (I 0 3), .int (I 0 4)])) := rfl
theorem gE_so {dA : Nat → ClassId} {ad : Nat → Nat} {I : Nat → Nat → Int32} {J : Nat → Nat → Int64} {F : Nat → Nat → Nat → Int32} {si : Nat → Nat} {tc oc : Nat} {G0 : mG} {i : Nat} (h : i < 4) : gE dA ad I J F si tc oc G0 (10 + i) = some (.inr (3, [.int (nI i), .ref (ad (20 + i)), .int (I 2 i), .long (J 0 i), .int (I 3 i), .int (I 4 i)])) := by
  unfold gE
  rw [if_pos (show 10 + i < 1000 by omega), if_neg (show ¬ 10 + i = 0 by omega), if_neg (show ¬ 10 + i = 1 by omega), if_neg (show ¬ 10 + i = 2 by omega), if_neg (show ¬ 10 + i = 3 by omega), if_neg (show ¬ 10 + i = 4 by omega), if_neg (show ¬ 10 + i = 5 by omega), if_neg (show ¬ 10 + i < 10 by omega), if_pos (show 10 + i < 14 by omega), show 10 + i - 10 = i by omega]
theorem gE_li {dA : Nat → ClassId} {ad : Nat → Nat} {I : Nat → Nat → Int32} {J : Nat → Nat → Int64} {F : Nat → Nat → Nat → Int32} {si : Nat → Nat} {tc oc : Nat} {G0 : mG} {i : Nat} (h : i < 4) : gE dA ad I J F si tc oc G0 (20 + i) = some (.inl (dA 0, 40, .inl (F 0 i))) := by
  unfold gE
  rw [if_pos (show 20 + i < 1000 by omega), if_neg (show ¬ 20 + i = 0 by omega), if_neg (show ¬ 20 + i = 1 by omega), if_neg (show ¬ 20 + i = 2 by omega), if_neg (show ¬ 20 + i = 3 by omega), if_neg (show ¬ 20 + i = 4 by omega), if_neg (show ¬ 20 + i = 5 by omega), if_neg (show ¬ 20 + i < 10 by omega), if_neg (show ¬ 20 + i < 14 by omega), if_neg (show ¬ 20 + i < 20 by omega), if_pos (show 20 + i < 24 by omega), show 20 + i - 20 = i by omega]
theorem gE_to {dA : Nat → ClassId} {ad : Nat → Nat} {I : Nat → Nat → Int32} {J : Nat → Nat → Int64} {F : Nat → Nat → Nat → Int32} {si : Nat → Nat} {tc oc : Nat} {G0 : mG} {i : Nat} (h : i < tc) (ht : tc ≤ 12) : gE dA ad I J F si tc oc G0 (100 + i) = some (.inr (4, [.ref (ad (10 + si i)), .int (I 6 i), .ref (ad (200 + i)), .int (I 5 i), .long (J 1 i), .long (J 2 i), .long (J 3 i), .int (I 7 i), .int (I 8 i)])) := by
  unfold gE
  rw [if_pos (show 100 + i < 1000 by omega), if_neg (show ¬ 100 + i = 0 by omega), if_neg (show ¬ 100 + i = 1 by omega), if_neg (show ¬ 100 + i = 2 by omega), if_neg (show ¬ 100 + i = 3 by omega), if_neg (show ¬ 100 + i = 4 by omega), if_neg (show ¬ 100 + i = 5 by omega), if_neg (show ¬ 100 + i < 10 by omega), if_neg (show ¬ 100 + i < 14 by omega), if_neg (show ¬ 100 + i < 20 by omega), if_neg (show ¬ 100 + i < 24 by omega), if_neg (show ¬ 100 + i < 100 by omega), if_pos (show 100 + i < 100 + tc by omega), show 100 + i - 100 = i by omega]
theorem gE_rd {dA : Nat → ClassId} {ad : Nat → Nat} {I : Nat → Nat → Int32} {J : Nat → Nat → Int64} {F : Nat → Nat → Nat → Int32} {si : Nat → Nat} {tc oc : Nat} {G0 : mG} {i : Nat} (h : i < tc) (ht : tc ≤ 12) : gE dA ad I J F si tc oc G0 (200 + i) = some (.inr (1, [.ref (ad (300 + i)), .int (I 9 i), .int (I 10 i)])) := by
  unfold gE
  rw [if_pos (show 200 + i < 1000 by omega), if_neg (show ¬ 200 + i = 0 by omega), if_neg (show ¬ 200 + i = 1 by omega), if_neg (show ¬ 200 + i = 2 by omega), if_neg (show ¬ 200 + i = 3 by omega), if_neg (show ¬ 200 + i = 4 by omega), if_neg (show ¬ 200 + i = 5 by omega), if_neg (show ¬ 200 + i < 10 by omega), if_neg (show ¬ 200 + i < 14 by omega), if_neg (show ¬ 200 + i < 20 by omega), if_neg (show ¬ 200 + i < 24 by omega), if_neg (show ¬ 200 + i < 100 by omega), if_neg (show ¬ 200 + i < 100 + tc by omega), if_neg (show ¬ 200 + i < 200 by omega), if_pos (show 200 + i < 200 + tc by omega), show 200 + i - 200 = i by omega]
theorem gE_la {dA : Nat → ClassId} {ad : Nat → Nat} {I : Nat → Nat → Int32} {J : Nat → Nat → Int64} {F : Nat → Nat → Nat → Int32} {si : Nat → Nat} {tc oc : Nat} {G0 : mG} {i : Nat} (h : i < tc) (ht : tc ≤ 12) : gE dA ad I J F si tc oc G0 (300 + i) = some (.inl (dA 0, 24, .inl (F 1 i))) := by
  unfold gE
  rw [if_pos (show 300 + i < 1000 by omega), if_neg (show ¬ 300 + i = 0 by omega), if_neg (show ¬ 300 + i = 1 by omega), if_neg (show ¬ 300 + i = 2 by omega), if_neg (show ¬ 300 + i = 3 by omega), if_neg (show ¬ 300 + i = 4 by omega), if_neg (show ¬ 300 + i = 5 by omega), if_neg (show ¬ 300 + i < 10 by omega), if_neg (show ¬ 300 + i < 14 by omega), if_neg (show ¬ 300 + i < 20 by omega), if_neg (show ¬ 300 + i < 24 by omega), if_neg (show ¬ 300 + i < 100 by omega), if_neg (show ¬ 300 + i < 100 + tc by omega), if_neg (show ¬ 300 + i < 200 by omega), if_neg (show ¬ 300 + i < 200 + tc by omega), if_neg (show ¬ 300 + i < 300 by omega), if_pos (show 300 + i < 300 + tc by omega), show 300 + i - 300 = i by omega]
theorem gE_od {dA : Nat → ClassId} {ad : Nat → Nat} {I : Nat → Nat → Int32} {J : Nat → Nat → Int64} {F : Nat → Nat → Nat → Int32} {si : Nat → Nat} {tc oc : Nat} {G0 : mG} {i : Nat} (h : i < oc) (ht : tc ≤ 12) (ho : oc ≤ 16) : gE dA ad I J F si tc oc G0 (400 + i) = some (.inr (0, [.int (I 11 i), .int (I 12 i), .int (I 13 i)])) := by
  unfold gE
  rw [if_pos (show 400 + i < 1000 by omega), if_neg (show ¬ 400 + i = 0 by omega), if_neg (show ¬ 400 + i = 1 by omega), if_neg (show ¬ 400 + i = 2 by omega), if_neg (show ¬ 400 + i = 3 by omega), if_neg (show ¬ 400 + i = 4 by omega), if_neg (show ¬ 400 + i = 5 by omega), if_neg (show ¬ 400 + i < 10 by omega), if_neg (show ¬ 400 + i < 14 by omega), if_neg (show ¬ 400 + i < 20 by omega), if_neg (show ¬ 400 + i < 24 by omega), if_neg (show ¬ 400 + i < 100 by omega), if_neg (show ¬ 400 + i < 100 + tc by omega), if_neg (show ¬ 400 + i < 200 by omega), if_neg (show ¬ 400 + i < 200 + tc by omega), if_neg (show ¬ 400 + i < 300 by omega), if_neg (show ¬ 400 + i < 300 + tc by omega), if_neg (show ¬ 400 + i < 400 by omega), if_pos (show 400 + i < 400 + oc by omega), show 400 + i - 400 = i by omega]
theorem gE_out {dA : Nat → ClassId} {ad : Nat → Nat} {I : Nat → Nat → Int32} {J : Nat → Nat → Int64} {F : Nat → Nat → Nat → Int32} {si : Nat → Nat} {tc oc : Nat} {G0 : mG} {r : Nat} (h : 1000 ≤ r) : gE dA ad I J F si tc oc G0 r = G0 r := by
  unfold gE
  rw [if_neg (by omega)]
theorem gE_urate {dA : Nat → ClassId} {ad : Nat → Nat} {I : Nat → Nat → Int32} {J : Nat → Nat → Int64} {F : Nat → Nat → Nat → Int32} {si : Nat → Nat} {tc oc : Nat} {G0 : mG} {i : Nat} (v : Int32) : va_up (gE dA ad I J F si tc oc G0) (1) (some (.inl (dA 0, 16, .inl (upd (I 1) i v)))) = gE dA ad (up2 I 1 i v) J F si tc oc G0 := by
  funext r
  by_cases hr : r = 1
  · rw [hr, va_up_self]
    rw [gE_c1, up2_upd]
  · rw [va_up_ne _ _ hr]
    unfold gE
    by_cases q0 : r < 1000
    · rw [if_pos q0, if_pos q0]
      by_cases q1 : r = 0
      · rw [if_pos q1, if_pos q1] <;>
        first | (simp [up2]; done) | (simp [up2_row]; done) | (exfalso; omega)
      rw [if_neg q1, if_neg q1]
      by_cases q2 : r = 1
      · rw [if_pos q2, if_pos q2] <;>
        first | (simp [up2]; done) | (simp [up2_row]; done) | (exfalso; omega)
      rw [if_neg q2, if_neg q2]
      by_cases q3 : r = 2
      · rw [if_pos q3, if_pos q3] <;>
        first | (simp [up2]; done) | (simp [up2_row]; done) | (exfalso; omega)
      rw [if_neg q3, if_neg q3]
      by_cases q4 : r = 3
      · rw [if_pos q4, if_pos q4] <;>
        first | (simp [up2]; done) | (simp [up2_row]; done) | (exfalso; omega)
      rw [if_neg q4, if_neg q4]
      by_cases q5 : r = 4
      · rw [if_pos q5, if_pos q5] <;>
        first | (simp [up2]; done) | (simp [up2_row]; done) | (exfalso; omega)
      rw [if_neg q5, if_neg q5]
      by_cases q6 : r = 5
      · rw [if_pos q6, if_pos q6] <;>
        first | (simp [up2]; done) | (simp [up2_row]; done) | (exfalso; omega)
      rw [if_neg q6, if_neg q6]
      by_cases q7 : r < 10
      · rw [if_pos q7, if_pos q7]
      rw [if_neg q7, if_neg q7]
      by_cases q8 : r < 14
      · rw [if_pos q8, if_pos q8] <;>
        first | (have h9 : ¬ r - 10 = i := (by omega); simp [up2, h9]; done) | (simp [up2]; done) | (exfalso; omega)
      rw [if_neg q8, if_neg q8]
      by_cases q9 : r < 20
      · rw [if_pos q9, if_pos q9]
      rw [if_neg q9, if_neg q9]
      by_cases q10 : r < 24
      · rw [if_pos q10, if_pos q10] <;>
        first | (have h9 : ¬ r - 20 = i := (by omega); simp [up2, h9]; done) | (simp [up2]; done) | (exfalso; omega)
      rw [if_neg q10, if_neg q10]
      by_cases q11 : r < 100
      · rw [if_pos q11, if_pos q11]
      rw [if_neg q11, if_neg q11]
      by_cases q12 : r < 100 + tc
      · rw [if_pos q12, if_pos q12] <;>
        first | (have h9 : ¬ r - 100 = i := (by omega); simp [up2, h9]; done) | (simp [up2]; done) | (exfalso; omega)
      rw [if_neg q12, if_neg q12]
      by_cases q13 : r < 200
      · rw [if_pos q13, if_pos q13]
      rw [if_neg q13, if_neg q13]
      by_cases q14 : r < 200 + tc
      · rw [if_pos q14, if_pos q14] <;>
        first | (have h9 : ¬ r - 200 = i := (by omega); simp [up2, h9]; done) | (simp [up2]; done) | (exfalso; omega)
      rw [if_neg q14, if_neg q14]
      by_cases q15 : r < 300
      · rw [if_pos q15, if_pos q15]
      rw [if_neg q15, if_neg q15]
      by_cases q16 : r < 300 + tc
      · rw [if_pos q16, if_pos q16] <;>
        first | (have h9 : ¬ r - 300 = i := (by omega); simp [up2, h9]; done) | (simp [up2]; done) | (exfalso; omega)
      rw [if_neg q16, if_neg q16]
      by_cases q17 : r < 400
      · rw [if_pos q17, if_pos q17]
      rw [if_neg q17, if_neg q17]
      by_cases q18 : r < 400 + oc
      · rw [if_pos q18, if_pos q18] <;>
        first | (have h9 : ¬ r - 400 = i := (by omega); simp [up2, h9]; done) | (simp [up2]; done) | (exfalso; omega)
      rw [if_neg q18, if_neg q18]
    · rw [if_neg q0, if_neg q0]

theorem gE_usort {dA : Nat → ClassId} {ad : Nat → Nat} {I : Nat → Nat → Int32} {J : Nat → Nat → Int64} {F : Nat → Nat → Nat → Int32} {si : Nat → Nat} {tc oc : Nat} {G0 : mG} {i : Nat} (h : i < 4) (a c d : Int32) (b : Int64) : va_up (gE dA ad I J F si tc oc G0) (10 + i) (some (.inr (3, [.int (nI i), .ref (ad (20 + i)), .int a, .long b, .int c, .int d]))) = gE dA ad (up2 (up2 (up2 I 2 i a) 3 i c) 4 i d) (up2 J 0 i b) F si tc oc G0 := by
  funext r
  by_cases hr : r = 10 + i
  · rw [hr, va_up_self]
    rw [gE_so h]
    simp [up2]
  · rw [va_up_ne _ _ hr]
    unfold gE
    by_cases q0 : r < 1000
    · rw [if_pos q0, if_pos q0]
      by_cases q1 : r = 0
      · rw [if_pos q1, if_pos q1] <;>
        first | (simp [up2]; done) | (simp [up2_row]; done) | (exfalso; omega)
      rw [if_neg q1, if_neg q1]
      by_cases q2 : r = 1
      · rw [if_pos q2, if_pos q2] <;>
        first | (simp [up2]; done) | (simp [up2_row]; done) | (exfalso; omega)
      rw [if_neg q2, if_neg q2]
      by_cases q3 : r = 2
      · rw [if_pos q3, if_pos q3] <;>
        first | (simp [up2]; done) | (simp [up2_row]; done) | (exfalso; omega)
      rw [if_neg q3, if_neg q3]
      by_cases q4 : r = 3
      · rw [if_pos q4, if_pos q4] <;>
        first | (simp [up2]; done) | (simp [up2_row]; done) | (exfalso; omega)
      rw [if_neg q4, if_neg q4]
      by_cases q5 : r = 4
      · rw [if_pos q5, if_pos q5] <;>
        first | (simp [up2]; done) | (simp [up2_row]; done) | (exfalso; omega)
      rw [if_neg q5, if_neg q5]
      by_cases q6 : r = 5
      · rw [if_pos q6, if_pos q6] <;>
        first | (simp [up2]; done) | (simp [up2_row]; done) | (exfalso; omega)
      rw [if_neg q6, if_neg q6]
      by_cases q7 : r < 10
      · rw [if_pos q7, if_pos q7]
      rw [if_neg q7, if_neg q7]
      by_cases q8 : r < 14
      · rw [if_pos q8, if_pos q8] <;>
        first | (have h9 : ¬ r - 10 = i := (by omega); simp [up2, h9]; done) | (simp [up2]; done) | (exfalso; omega)
      rw [if_neg q8, if_neg q8]
      by_cases q9 : r < 20
      · rw [if_pos q9, if_pos q9]
      rw [if_neg q9, if_neg q9]
      by_cases q10 : r < 24
      · rw [if_pos q10, if_pos q10] <;>
        first | (have h9 : ¬ r - 20 = i := (by omega); simp [up2, h9]; done) | (simp [up2]; done) | (exfalso; omega)
      rw [if_neg q10, if_neg q10]
      by_cases q11 : r < 100
      · rw [if_pos q11, if_pos q11]
      rw [if_neg q11, if_neg q11]
      by_cases q12 : r < 100 + tc
      · rw [if_pos q12, if_pos q12] <;>
        first | (have h9 : ¬ r - 100 = i := (by omega); simp [up2, h9]; done) | (simp [up2]; done) | (exfalso; omega)
      rw [if_neg q12, if_neg q12]
      by_cases q13 : r < 200
      · rw [if_pos q13, if_pos q13]
      rw [if_neg q13, if_neg q13]
      by_cases q14 : r < 200 + tc
      · rw [if_pos q14, if_pos q14] <;>
        first | (have h9 : ¬ r - 200 = i := (by omega); simp [up2, h9]; done) | (simp [up2]; done) | (exfalso; omega)
      rw [if_neg q14, if_neg q14]
      by_cases q15 : r < 300
      · rw [if_pos q15, if_pos q15]
      rw [if_neg q15, if_neg q15]
      by_cases q16 : r < 300 + tc
      · rw [if_pos q16, if_pos q16] <;>
        first | (have h9 : ¬ r - 300 = i := (by omega); simp [up2, h9]; done) | (simp [up2]; done) | (exfalso; omega)
      rw [if_neg q16, if_neg q16]
      by_cases q17 : r < 400
      · rw [if_pos q17, if_pos q17]
      rw [if_neg q17, if_neg q17]
      by_cases q18 : r < 400 + oc
      · rw [if_pos q18, if_pos q18] <;>
        first | (have h9 : ¬ r - 400 = i := (by omega); simp [up2, h9]; done) | (simp [up2]; done) | (exfalso; omega)
      rw [if_neg q18, if_neg q18]
    · rw [if_neg q0, if_neg q0]

theorem gE_ulife {dA : Nat → ClassId} {ad : Nat → Nat} {I : Nat → Nat → Int32} {J : Nat → Nat → Int64} {F : Nat → Nat → Nat → Int32} {si : Nat → Nat} {tc oc : Nat} {G0 : mG} {i : Nat} (h : i < 4) (g : Nat → Int32) : va_up (gE dA ad I J F si tc oc G0) (20 + i) (some (.inl (dA 0, 40, .inl g))) = gE dA ad I J (up2 F 0 i g) si tc oc G0 := by
  funext r
  by_cases hr : r = 20 + i
  · rw [hr, va_up_self]
    rw [gE_li h]
    simp [up2]
  · rw [va_up_ne _ _ hr]
    unfold gE
    by_cases q0 : r < 1000
    · rw [if_pos q0, if_pos q0]
      by_cases q1 : r = 0
      · rw [if_pos q1, if_pos q1] <;>
        first | (simp [up2]; done) | (simp [up2_row]; done) | (exfalso; omega)
      rw [if_neg q1, if_neg q1]
      by_cases q2 : r = 1
      · rw [if_pos q2, if_pos q2] <;>
        first | (simp [up2]; done) | (simp [up2_row]; done) | (exfalso; omega)
      rw [if_neg q2, if_neg q2]
      by_cases q3 : r = 2
      · rw [if_pos q3, if_pos q3] <;>
        first | (simp [up2]; done) | (simp [up2_row]; done) | (exfalso; omega)
      rw [if_neg q3, if_neg q3]
      by_cases q4 : r = 3
      · rw [if_pos q4, if_pos q4] <;>
        first | (simp [up2]; done) | (simp [up2_row]; done) | (exfalso; omega)
      rw [if_neg q4, if_neg q4]
      by_cases q5 : r = 4
      · rw [if_pos q5, if_pos q5] <;>
        first | (simp [up2]; done) | (simp [up2_row]; done) | (exfalso; omega)
      rw [if_neg q5, if_neg q5]
      by_cases q6 : r = 5
      · rw [if_pos q6, if_pos q6] <;>
        first | (simp [up2]; done) | (simp [up2_row]; done) | (exfalso; omega)
      rw [if_neg q6, if_neg q6]
      by_cases q7 : r < 10
      · rw [if_pos q7, if_pos q7]
      rw [if_neg q7, if_neg q7]
      by_cases q8 : r < 14
      · rw [if_pos q8, if_pos q8] <;>
        first | (have h9 : ¬ r - 10 = i := (by omega); simp [up2, h9]; done) | (simp [up2]; done) | (exfalso; omega)
      rw [if_neg q8, if_neg q8]
      by_cases q9 : r < 20
      · rw [if_pos q9, if_pos q9]
      rw [if_neg q9, if_neg q9]
      by_cases q10 : r < 24
      · rw [if_pos q10, if_pos q10] <;>
        first | (have h9 : ¬ r - 20 = i := (by omega); simp [up2, h9]; done) | (simp [up2]; done) | (exfalso; omega)
      rw [if_neg q10, if_neg q10]
      by_cases q11 : r < 100
      · rw [if_pos q11, if_pos q11]
      rw [if_neg q11, if_neg q11]
      by_cases q12 : r < 100 + tc
      · rw [if_pos q12, if_pos q12] <;>
        first | (have h9 : ¬ r - 100 = i := (by omega); simp [up2, h9]; done) | (simp [up2]; done) | (exfalso; omega)
      rw [if_neg q12, if_neg q12]
      by_cases q13 : r < 200
      · rw [if_pos q13, if_pos q13]
      rw [if_neg q13, if_neg q13]
      by_cases q14 : r < 200 + tc
      · rw [if_pos q14, if_pos q14] <;>
        first | (have h9 : ¬ r - 200 = i := (by omega); simp [up2, h9]; done) | (simp [up2]; done) | (exfalso; omega)
      rw [if_neg q14, if_neg q14]
      by_cases q15 : r < 300
      · rw [if_pos q15, if_pos q15]
      rw [if_neg q15, if_neg q15]
      by_cases q16 : r < 300 + tc
      · rw [if_pos q16, if_pos q16] <;>
        first | (have h9 : ¬ r - 300 = i := (by omega); simp [up2, h9]; done) | (simp [up2]; done) | (exfalso; omega)
      rw [if_neg q16, if_neg q16]
    · rw [if_neg q0, if_neg q0]

theorem gE_utool {dA : Nat → ClassId} {ad : Nat → Nat} {I : Nat → Nat → Int32} {J : Nat → Nat → Int64} {F : Nat → Nat → Nat → Int32} {si : Nat → Nat} {tc oc : Nat} {G0 : mG} {i : Nat} (h : i < tc) (ht : tc ≤ 12) (ln : Int32) (we us gr : Int64) (ba ou : Int32) : va_up (gE dA ad I J F si tc oc G0) (100 + i) (some (.inr (4, [.ref (ad (10 + si i)), .int (I 6 i), .ref (ad (200 + i)), .int ln, .long we, .long us, .long gr, .int ba, .int ou]))) = gE dA ad (up2 (up2 (up2 I 5 i ln) 7 i ba) 8 i ou) (up2 (up2 (up2 J 1 i we) 2 i us) 3 i gr) F si tc oc G0 := by
  funext r
  by_cases hr : r = 100 + i
  · rw [hr, va_up_self]
    rw [gE_to h ht]
    simp [up2]
  · rw [va_up_ne _ _ hr]
    unfold gE
    by_cases q0 : r < 1000
    · rw [if_pos q0, if_pos q0]
      by_cases q1 : r = 0
      · rw [if_pos q1, if_pos q1] <;>
        first | (simp [up2]; done) | (simp [up2_row]; done) | (exfalso; omega)
      rw [if_neg q1, if_neg q1]
      by_cases q2 : r = 1
      · rw [if_pos q2, if_pos q2] <;>
        first | (simp [up2]; done) | (simp [up2_row]; done) | (exfalso; omega)
      rw [if_neg q2, if_neg q2]
      by_cases q3 : r = 2
      · rw [if_pos q3, if_pos q3] <;>
        first | (simp [up2]; done) | (simp [up2_row]; done) | (exfalso; omega)
      rw [if_neg q3, if_neg q3]
      by_cases q4 : r = 3
      · rw [if_pos q4, if_pos q4] <;>
        first | (simp [up2]; done) | (simp [up2_row]; done) | (exfalso; omega)
      rw [if_neg q4, if_neg q4]
      by_cases q5 : r = 4
      · rw [if_pos q5, if_pos q5] <;>
        first | (simp [up2]; done) | (simp [up2_row]; done) | (exfalso; omega)
      rw [if_neg q5, if_neg q5]
      by_cases q6 : r = 5
      · rw [if_pos q6, if_pos q6] <;>
        first | (simp [up2]; done) | (simp [up2_row]; done) | (exfalso; omega)
      rw [if_neg q6, if_neg q6]
      by_cases q7 : r < 10
      · rw [if_pos q7, if_pos q7]
      rw [if_neg q7, if_neg q7]
      by_cases q8 : r < 14
      · rw [if_pos q8, if_pos q8] <;>
        first | (have h9 : ¬ r - 10 = i := (by omega); simp [up2, h9]; done) | (simp [up2]; done) | (exfalso; omega)
      rw [if_neg q8, if_neg q8]
      by_cases q9 : r < 20
      · rw [if_pos q9, if_pos q9]
      rw [if_neg q9, if_neg q9]
      by_cases q10 : r < 24
      · rw [if_pos q10, if_pos q10] <;>
        first | (have h9 : ¬ r - 20 = i := (by omega); simp [up2, h9]; done) | (simp [up2]; done) | (exfalso; omega)
      rw [if_neg q10, if_neg q10]
      by_cases q11 : r < 100
      · rw [if_pos q11, if_pos q11]
      rw [if_neg q11, if_neg q11]
      by_cases q12 : r < 100 + tc
      · rw [if_pos q12, if_pos q12] <;>
        first | (have h9 : ¬ r - 100 = i := (by omega); simp [up2, h9]; done) | (simp [up2]; done) | (exfalso; omega)
      rw [if_neg q12, if_neg q12]
      by_cases q13 : r < 200
      · rw [if_pos q13, if_pos q13]
      rw [if_neg q13, if_neg q13]
      by_cases q14 : r < 200 + tc
      · rw [if_pos q14, if_pos q14] <;>
        first | (have h9 : ¬ r - 200 = i := (by omega); simp [up2, h9]; done) | (simp [up2]; done) | (exfalso; omega)
      rw [if_neg q14, if_neg q14]
      by_cases q15 : r < 300
      · rw [if_pos q15, if_pos q15]
      rw [if_neg q15, if_neg q15]
      by_cases q16 : r < 300 + tc
      · rw [if_pos q16, if_pos q16] <;>
        first | (have h9 : ¬ r - 300 = i := (by omega); simp [up2, h9]; done) | (simp [up2]; done) | (exfalso; omega)
      rw [if_neg q16, if_neg q16]
      by_cases q17 : r < 400
      · rw [if_pos q17, if_pos q17]
      rw [if_neg q17, if_neg q17]
      by_cases q18 : r < 400 + oc
      · rw [if_pos q18, if_pos q18] <;>
        first | (have h9 : ¬ r - 400 = i := (by omega); simp [up2, h9]; done) | (simp [up2]; done) | (exfalso; omega)
      rw [if_neg q18, if_neg q18]
    · rw [if_neg q0, if_neg q0]

theorem gE_uread {dA : Nat → ClassId} {ad : Nat → Nat} {I : Nat → Nat → Int32} {J : Nat → Nat → Int64} {F : Nat → Nat → Nat → Int32} {si : Nat → Nat} {tc oc : Nat} {G0 : mG} {i : Nat} (h : i < tc) (ht : tc ≤ 12) (a b : Int32) : va_up (gE dA ad I J F si tc oc G0) (200 + i) (some (.inr (1, [.ref (ad (300 + i)), .int a, .int b]))) = gE dA ad (up2 (up2 I 9 i a) 10 i b) J F si tc oc G0 := by
  funext r
  by_cases hr : r = 200 + i
  · rw [hr, va_up_self]
    rw [gE_rd h ht]
    simp [up2]
  · rw [va_up_ne _ _ hr]
    unfold gE
    by_cases q0 : r < 1000
    · rw [if_pos q0, if_pos q0]
      by_cases q1 : r = 0
      · rw [if_pos q1, if_pos q1] <;>
        first | (simp [up2]; done) | (simp [up2_row]; done) | (exfalso; omega)
      rw [if_neg q1, if_neg q1]
      by_cases q2 : r = 1
      · rw [if_pos q2, if_pos q2] <;>
        first | (simp [up2]; done) | (simp [up2_row]; done) | (exfalso; omega)
      rw [if_neg q2, if_neg q2]
      by_cases q3 : r = 2
      · rw [if_pos q3, if_pos q3] <;>
        first | (simp [up2]; done) | (simp [up2_row]; done) | (exfalso; omega)
      rw [if_neg q3, if_neg q3]
      by_cases q4 : r = 3
      · rw [if_pos q4, if_pos q4] <;>
        first | (simp [up2]; done) | (simp [up2_row]; done) | (exfalso; omega)
      rw [if_neg q4, if_neg q4]
      by_cases q5 : r = 4
      · rw [if_pos q5, if_pos q5] <;>
        first | (simp [up2]; done) | (simp [up2_row]; done) | (exfalso; omega)
      rw [if_neg q5, if_neg q5]
      by_cases q6 : r = 5
      · rw [if_pos q6, if_pos q6] <;>
        first | (simp [up2]; done) | (simp [up2_row]; done) | (exfalso; omega)
      rw [if_neg q6, if_neg q6]
      by_cases q7 : r < 10
      · rw [if_pos q7, if_pos q7]
      rw [if_neg q7, if_neg q7]
      by_cases q8 : r < 14
      · rw [if_pos q8, if_pos q8] <;>
        first | (have h9 : ¬ r - 10 = i := (by omega); simp [up2, h9]; done) | (simp [up2]; done) | (exfalso; omega)
      rw [if_neg q8, if_neg q8]
      by_cases q9 : r < 20
      · rw [if_pos q9, if_pos q9]
      rw [if_neg q9, if_neg q9]
      by_cases q10 : r < 24
      · rw [if_pos q10, if_pos q10] <;>
        first | (have h9 : ¬ r - 20 = i := (by omega); simp [up2, h9]; done) | (simp [up2]; done) | (exfalso; omega)
      rw [if_neg q10, if_neg q10]
      by_cases q11 : r < 100
      · rw [if_pos q11, if_pos q11]
      rw [if_neg q11, if_neg q11]
      by_cases q12 : r < 100 + tc
      · rw [if_pos q12, if_pos q12] <;>
        first | (have h9 : ¬ r - 100 = i := (by omega); simp [up2, h9]; done) | (simp [up2]; done) | (exfalso; omega)
      rw [if_neg q12, if_neg q12]
      by_cases q13 : r < 200
      · rw [if_pos q13, if_pos q13]
      rw [if_neg q13, if_neg q13]
      by_cases q14 : r < 200 + tc
      · rw [if_pos q14, if_pos q14] <;>
        first | (have h9 : ¬ r - 200 = i := (by omega); simp [up2, h9]; done) | (simp [up2]; done) | (exfalso; omega)
      rw [if_neg q14, if_neg q14]
      by_cases q15 : r < 300
      · rw [if_pos q15, if_pos q15]
      rw [if_neg q15, if_neg q15]
      by_cases q16 : r < 300 + tc
      · rw [if_pos q16, if_pos q16] <;>
        first | (have h9 : ¬ r - 300 = i := (by omega); simp [up2, h9]; done) | (simp [up2]; done) | (exfalso; omega)
      rw [if_neg q16, if_neg q16]
      by_cases q17 : r < 400
      · rw [if_pos q17, if_pos q17]
      rw [if_neg q17, if_neg q17]
      by_cases q18 : r < 400 + oc
      · rw [if_pos q18, if_pos q18] <;>
        first | (have h9 : ¬ r - 400 = i := (by omega); simp [up2, h9]; done) | (simp [up2]; done) | (exfalso; omega)
      rw [if_neg q18, if_neg q18]
    · rw [if_neg q0, if_neg q0]

theorem gE_ulate {dA : Nat → ClassId} {ad : Nat → Nat} {I : Nat → Nat → Int32} {J : Nat → Nat → Int64} {F : Nat → Nat → Nat → Int32} {si : Nat → Nat} {tc oc : Nat} {G0 : mG} {i : Nat} (h : i < tc) (ht : tc ≤ 12) (g : Nat → Int32) : va_up (gE dA ad I J F si tc oc G0) (300 + i) (some (.inl (dA 0, 24, .inl g))) = gE dA ad I J (up2 F 1 i g) si tc oc G0 := by
  funext r
  by_cases hr : r = 300 + i
  · rw [hr, va_up_self]
    rw [gE_la h ht]
    simp [up2]
  · rw [va_up_ne _ _ hr]
    unfold gE
    by_cases q0 : r < 1000
    · rw [if_pos q0, if_pos q0]
      by_cases q1 : r = 0
      · rw [if_pos q1, if_pos q1] <;>
        first | (simp [up2]; done) | (simp [up2_row]; done) | (exfalso; omega)
      rw [if_neg q1, if_neg q1]
      by_cases q2 : r = 1
      · rw [if_pos q2, if_pos q2] <;>
        first | (simp [up2]; done) | (simp [up2_row]; done) | (exfalso; omega)
      rw [if_neg q2, if_neg q2]
      by_cases q3 : r = 2
      · rw [if_pos q3, if_pos q3] <;>
        first | (simp [up2]; done) | (simp [up2_row]; done) | (exfalso; omega)
      rw [if_neg q3, if_neg q3]
      by_cases q4 : r = 3
      · rw [if_pos q4, if_pos q4] <;>
        first | (simp [up2]; done) | (simp [up2_row]; done) | (exfalso; omega)
      rw [if_neg q4, if_neg q4]
      by_cases q5 : r = 4
      · rw [if_pos q5, if_pos q5] <;>
        first | (simp [up2]; done) | (simp [up2_row]; done) | (exfalso; omega)
      rw [if_neg q5, if_neg q5]
      by_cases q6 : r = 5
      · rw [if_pos q6, if_pos q6] <;>
        first | (simp [up2]; done) | (simp [up2_row]; done) | (exfalso; omega)
      rw [if_neg q6, if_neg q6]
      by_cases q7 : r < 10
      · rw [if_pos q7, if_pos q7]
      rw [if_neg q7, if_neg q7]
      by_cases q8 : r < 14
      · rw [if_pos q8, if_pos q8] <;>
        first | (have h9 : ¬ r - 10 = i := (by omega); simp [up2, h9]; done) | (simp [up2]; done) | (exfalso; omega)
      rw [if_neg q8, if_neg q8]
      by_cases q9 : r < 20
      · rw [if_pos q9, if_pos q9]
      rw [if_neg q9, if_neg q9]
      by_cases q10 : r < 24
      · rw [if_pos q10, if_pos q10] <;>
        first | (have h9 : ¬ r - 20 = i := (by omega); simp [up2, h9]; done) | (simp [up2]; done) | (exfalso; omega)
      rw [if_neg q10, if_neg q10]
      by_cases q11 : r < 100
      · rw [if_pos q11, if_pos q11]
      rw [if_neg q11, if_neg q11]
      by_cases q12 : r < 100 + tc
      · rw [if_pos q12, if_pos q12] <;>
        first | (have h9 : ¬ r - 100 = i := (by omega); simp [up2, h9]; done) | (simp [up2]; done) | (exfalso; omega)
      rw [if_neg q12, if_neg q12]
      by_cases q13 : r < 200
      · rw [if_pos q13, if_pos q13]
      rw [if_neg q13, if_neg q13]
      by_cases q14 : r < 200 + tc
      · rw [if_pos q14, if_pos q14] <;>
        first | (have h9 : ¬ r - 200 = i := (by omega); simp [up2, h9]; done) | (simp [up2]; done) | (exfalso; omega)
      rw [if_neg q14, if_neg q14]
      by_cases q15 : r < 300
      · rw [if_pos q15, if_pos q15]
      rw [if_neg q15, if_neg q15]
      by_cases q16 : r < 300 + tc
      · rw [if_pos q16, if_pos q16] <;>
        first | (have h9 : ¬ r - 300 = i := (by omega); simp [up2, h9]; done) | (simp [up2]; done) | (exfalso; omega)
      rw [if_neg q16, if_neg q16]
    · rw [if_neg q0, if_neg q0]

theorem gE_uorder {dA : Nat → ClassId} {ad : Nat → Nat} {I : Nat → Nat → Int32} {J : Nat → Nat → Int64} {F : Nat → Nat → Nat → Int32} {si : Nat → Nat} {tc oc : Nat} {G0 : mG} {i : Nat} (h : i < oc) (ht : tc ≤ 12) (ho : oc ≤ 16) (v : Int32) : va_up (gE dA ad I J F si tc oc G0) (400 + i) (some (.inr (0, [.int (I 11 i), .int (I 12 i), .int v]))) = gE dA ad (up2 I 13 i v) J F si tc oc G0 := by
  funext r
  by_cases hr : r = 400 + i
  · rw [hr, va_up_self]
    rw [gE_od h ht ho]
    simp [up2]
  · rw [va_up_ne _ _ hr]
    unfold gE
    by_cases q0 : r < 1000
    · rw [if_pos q0, if_pos q0]
      by_cases q1 : r = 0
      · rw [if_pos q1, if_pos q1] <;>
        first | (simp [up2]; done) | (simp [up2_row]; done) | (exfalso; omega)
      rw [if_neg q1, if_neg q1]
      by_cases q2 : r = 1
      · rw [if_pos q2, if_pos q2] <;>
        first | (simp [up2]; done) | (simp [up2_row]; done) | (exfalso; omega)
      rw [if_neg q2, if_neg q2]
      by_cases q3 : r = 2
      · rw [if_pos q3, if_pos q3] <;>
        first | (simp [up2]; done) | (simp [up2_row]; done) | (exfalso; omega)
      rw [if_neg q3, if_neg q3]
      by_cases q4 : r = 3
      · rw [if_pos q4, if_pos q4] <;>
        first | (simp [up2]; done) | (simp [up2_row]; done) | (exfalso; omega)
      rw [if_neg q4, if_neg q4]
      by_cases q5 : r = 4
      · rw [if_pos q5, if_pos q5] <;>
        first | (simp [up2]; done) | (simp [up2_row]; done) | (exfalso; omega)
      rw [if_neg q5, if_neg q5]
      by_cases q6 : r = 5
      · rw [if_pos q6, if_pos q6] <;>
        first | (simp [up2]; done) | (simp [up2_row]; done) | (exfalso; omega)
      rw [if_neg q6, if_neg q6]
      by_cases q7 : r < 10
      · rw [if_pos q7, if_pos q7]
      rw [if_neg q7, if_neg q7]
      by_cases q8 : r < 14
      · rw [if_pos q8, if_pos q8] <;>
        first | (have h9 : ¬ r - 10 = i := (by omega); simp [up2, h9]; done) | (simp [up2]; done) | (exfalso; omega)
      rw [if_neg q8, if_neg q8]
      by_cases q9 : r < 20
      · rw [if_pos q9, if_pos q9]
      rw [if_neg q9, if_neg q9]
      by_cases q10 : r < 24
      · rw [if_pos q10, if_pos q10] <;>
        first | (have h9 : ¬ r - 20 = i := (by omega); simp [up2, h9]; done) | (simp [up2]; done) | (exfalso; omega)
      rw [if_neg q10, if_neg q10]
      by_cases q11 : r < 100
      · rw [if_pos q11, if_pos q11]
      rw [if_neg q11, if_neg q11]
      by_cases q12 : r < 100 + tc
      · rw [if_pos q12, if_pos q12] <;>
        first | (have h9 : ¬ r - 100 = i := (by omega); simp [up2, h9]; done) | (simp [up2]; done) | (exfalso; omega)
      rw [if_neg q12, if_neg q12]
      by_cases q13 : r < 200
      · rw [if_pos q13, if_pos q13]
      rw [if_neg q13, if_neg q13]
      by_cases q14 : r < 200 + tc
      · rw [if_pos q14, if_pos q14] <;>
        first | (have h9 : ¬ r - 200 = i := (by omega); simp [up2, h9]; done) | (simp [up2]; done) | (exfalso; omega)
      rw [if_neg q14, if_neg q14]
      by_cases q15 : r < 300
      · rw [if_pos q15, if_pos q15]
      rw [if_neg q15, if_neg q15]
      by_cases q16 : r < 300 + tc
      · rw [if_pos q16, if_pos q16] <;>
        first | (have h9 : ¬ r - 300 = i := (by omega); simp [up2, h9]; done) | (simp [up2]; done) | (exfalso; omega)
      rw [if_neg q16, if_neg q16]
      by_cases q17 : r < 400
      · rw [if_pos q17, if_pos q17]
      rw [if_neg q17, if_neg q17]
      by_cases q18 : r < 400 + oc
      · rw [if_pos q18, if_pos q18] <;>
        first | (have h9 : ¬ r - 400 = i := (by omega); simp [up2, h9]; done) | (simp [up2]; done) | (exfalso; omega)
      rw [if_neg q18, if_neg q18]
    · rw [if_neg q0, if_neg q0]

theorem gE_urules {dA : Nat → ClassId} {ad : Nat → Nat} {I : Nat → Nat → Int32} {J : Nat → Nat → Int64} {F : Nat → Nat → Nat → Int32} {si : Nat → Nat} {tc oc : Nat} {G0 : mG} (a b c d : Int32) : va_up (gE dA ad I J F si tc oc G0) (5) (some (.inr (2, [.int a, .int b, .int c, .int d]))) = gE dA ad (up2 (up2 (up2 (up2 I 0 1 a) 0 2 b) 0 3 c) 0 4 d) J F si tc oc G0 := by
  funext r
  by_cases hr : r = 5
  · rw [hr, va_up_self]
    rw [gE_c5]
    simp [up2]
  · rw [va_up_ne _ _ hr]
    unfold gE
    by_cases q0 : r < 1000
    · rw [if_pos q0, if_pos q0]
      by_cases q1 : r = 0
      · rw [if_pos q1, if_pos q1] <;>
        first | (simp [up2]; done) | (simp [up2_row]; done) | (exfalso; omega)
      rw [if_neg q1, if_neg q1]
      by_cases q2 : r = 1
      · rw [if_pos q2, if_pos q2] <;>
        first | (simp [up2]; done) | (simp [up2_row]; done) | (exfalso; omega)
      rw [if_neg q2, if_neg q2]
      by_cases q3 : r = 2
      · rw [if_pos q3, if_pos q3] <;>
        first | (simp [up2]; done) | (simp [up2_row]; done) | (exfalso; omega)
      rw [if_neg q3, if_neg q3]
      by_cases q4 : r = 3
      · rw [if_pos q4, if_pos q4] <;>
        first | (simp [up2]; done) | (simp [up2_row]; done) | (exfalso; omega)
      rw [if_neg q4, if_neg q4]
      by_cases q5 : r = 4
      · rw [if_pos q5, if_pos q5] <;>
        first | (simp [up2]; done) | (simp [up2_row]; done) | (exfalso; omega)
      rw [if_neg q5, if_neg q5]
      by_cases q6 : r = 5
      · rw [if_pos q6, if_pos q6] <;>
        first | (simp [up2]; done) | (simp [up2_row]; done) | (exfalso; omega)
      rw [if_neg q6, if_neg q6]
      by_cases q7 : r < 10
      · rw [if_pos q7, if_pos q7]
      rw [if_neg q7, if_neg q7]
      by_cases q8 : r < 14
      · rw [if_pos q8, if_pos q8] <;>
        first | (have h9 : ¬ r - 10 = i := (by omega); simp [up2, h9]; done) | (simp [up2]; done) | (exfalso; omega)
      rw [if_neg q8, if_neg q8]
      by_cases q9 : r < 20
      · rw [if_pos q9, if_pos q9]
      rw [if_neg q9, if_neg q9]
      by_cases q10 : r < 24
      · rw [if_pos q10, if_pos q10] <;>
        first | (have h9 : ¬ r - 20 = i := (by omega); simp [up2, h9]; done) | (simp [up2]; done) | (exfalso; omega)
      rw [if_neg q10, if_neg q10]
      by_cases q11 : r < 100
      · rw [if_pos q11, if_pos q11]
      rw [if_neg q11, if_neg q11]
      by_cases q12 : r < 100 + tc
      · rw [if_pos q12, if_pos q12] <;>
        first | (have h9 : ¬ r - 100 = i := (by omega); simp [up2, h9]; done) | (simp [up2]; done) | (exfalso; omega)
      rw [if_neg q12, if_neg q12]
      by_cases q13 : r < 200
      · rw [if_pos q13, if_pos q13]
      rw [if_neg q13, if_neg q13]
      by_cases q14 : r < 200 + tc
      · rw [if_pos q14, if_pos q14] <;>
        first | (have h9 : ¬ r - 200 = i := (by omega); simp [up2, h9]; done) | (simp [up2]; done) | (exfalso; omega)
      rw [if_neg q14, if_neg q14]
      by_cases q15 : r < 300
      · rw [if_pos q15, if_pos q15]
      rw [if_neg q15, if_neg q15]
      by_cases q16 : r < 300 + tc
      · rw [if_pos q16, if_pos q16] <;>
        first | (have h9 : ¬ r - 300 = i := (by omega); simp [up2, h9]; done) | (simp [up2]; done) | (exfalso; omega)
      rw [if_neg q16, if_neg q16]
      by_cases q17 : r < 400
      · rw [if_pos q17, if_pos q17]
      rw [if_neg q17, if_neg q17]
      by_cases q18 : r < 400 + oc
      · rw [if_pos q18, if_pos q18] <;>
        first | (have h9 : ¬ r - 400 = i := (by omega); simp [up2, h9]; done) | (simp [up2]; done) | (exfalso; omega)
      rw [if_neg q18, if_neg q18]
    · rw [if_neg q0, if_neg q0]

def eWear (w x : Int64) : Int64 := if 1000000000000000 < w + x then 1000000000000000 else w + x
theorem sw6 (x : Int32) : x = 0 ∨ x = 1 ∨ x = 2 ∨ x = 3 ∨ x = 4 ∨ x = 5 ∨ (x.toInt < 0 ∨ 5 < x.toInt) := by
  by_cases h : x.toInt < 0 ∨ 5 < x.toInt
  · exact Or.inr (Or.inr (Or.inr (Or.inr (Or.inr (Or.inr h)))))
  · have h0 : ¬ x < 0 := fun q => h (Or.inl (by have := Int32.lt_iff_toInt_lt.mp q; simpa using this))
    obtain ⟨j, hj, ej⟩ := nI_of h0
    have e := nI_toInt hj
    rw [← ej] at e
    have h5 : j < 6 := by omega
    rcases (show j = 0 ∨ j = 1 ∨ j = 2 ∨ j = 3 ∨ j = 4 ∨ j = 5 by omega) with q | q | q | q | q | q <;> rw [q] at ej
    · exact Or.inl ej
    · exact Or.inr (Or.inl ej)
    · exact Or.inr (Or.inr (Or.inl ej))
    · exact Or.inr (Or.inr (Or.inr (Or.inl ej)))
    · exact Or.inr (Or.inr (Or.inr (Or.inr (Or.inl ej))))
    · exact Or.inr (Or.inr (Or.inr (Or.inr (Or.inr (Or.inl ej)))))
end
section
set_option maxHeartbeats 4000000 in
set_option maxRecDepth 100000 in
theorem c_E_toolAt (l : Launch) (hlt : l.stackTraces = false) (D : va_G) (dA : Nat → ClassId) (ad : Nat → Nat) (G : mG) (sz : Nat) (I : Nat → Nat → Int32) (J : Nat → Nat → Int64) (F : Nat → Nat → Nat → Int32) (si : Nat → Nat) (tc oc : Nat) (G0 : mG) (hG : G = gE dA ad I J F si tc oc G0) (ht : tc ≤ 12) (p0 : Int32) : vx_Met l y_E_toolAt (.code y_E_toolAt b_E_toolAt 3 (some (.object "EdgeWear$Tool")) :: mBig) ({ frames := 6, cells := 1, slots := 6, locals := 82 }) (mPc [.ref (ad 0), .int p0] D mCl (mTys dA) mTx ad G sz) (mQq (fun (rv : Option Nat) (u : mU) => (∃ i, i < tc ∧ p0 = nI i ∧ rv = some (ad (100 + i))) ∧ u = (ad, G)) D mCl ad G sz) (mXC (fun (E : String) (u : mU) => (E = "java/lang/IndexOutOfBoundsException" ∧ ¬ ∃ i, i < tc ∧ p0 = nI i) ∧ u = (ad, G)) D mCl ad G sz) 1 6 (mA ad G sz) := by
  refine vx_ofW (cc := b_E_toolAt) (maxL := 3) (ret := (some (.object "EdgeWear$Tool"))) (by decide) rfl ?_
  intro p e s m args below meth c s₁ B hml hout hv
  obtain ⟨rfl, hsz, hw0, hC⟩ := hv
  have hx := B.exec
  have hb := B.bytes
  have hr := B.returns
  have hts := atoms_spec (ws := .code y_E_toolAt b_E_toolAt 3 (some (.object "EdgeWear$Tool")) :: mBig) B.pre
  have hT : ∀ w ∈ mBig, w.before _ s = true := fun w h => hts w (List.mem_cons_of_mem _ h)
  have hown : s.vm.findClass "EdgeWear" = some m.cls := findClass_of_methodNamed B.named
  have hlocks := B.notSynchronized
  subst hsz
  have hm := mS.start hw0
  have hA : ∀ q : Nat, s.heap.size ≤ q → mA ad G s.heap.size q := fun q h => Or.inr h
  have hl := lv_entry ([.ref (ad 0), .int p0]) (n := 3) (Nat.le_of_ble_eq_true rfl)
  rw [lg_entry_eq]
  generalize (lg_sl ([.ref (ad 0), .int p0]) ++ List.replicate (3 - (lg_sl ([.ref (ad 0), .int p0])).length) Slot.unset).toArray = ls at hl ⊢
  have hl : lv_has ls 3 [(0, .ref (ad 0)), (1, .int p0)] := hl
  refine lv_iload_n hx hb d_E_toolAt_0 rfl (lv_at hl 1 rfl) ?_
  refine lv_if_lt (tgt := 22) hx hb d_E_toolAt_1 (by decide) (fun c_1 => ?_) (fun c_1 => ?_)
  · refine lv_null hx hb d_E_toolAt_22 ?_
    refine lv_astore_nN (lv' := [(2, .null), (0, .ref (ad 0)), (1, .int p0)]) hx hb d_E_toolAt_23 rfl hl (by decide) rfl (fun ls hl => ?_)
    refine lv_aload_nN hx hb d_E_toolAt_24 rfl (lv_at hl 0 rfl) ?_
    refine lv_ifnonnullN hx hb d_E_toolAt_25 ?_
    exact m_throwSW (cls := "java/lang/IndexOutOfBoundsException") (text := "no such tool") (names := ["java/lang/RuntimeException", "java/lang/Exception"]) (tx := mTx) hx hb hlt hown (by decide +kernel) (by decide +kernel) (hT _ k_133) (hT _ k_8) (by decide +kernel) hC (at_IndexOutOfBoundsException hT hC.2.2.2) (good_IndexOutOfBoundsException) hm (hl.1.trans hml.symm) d_E_toolAt_28 d_E_toolAt_31 d_E_toolAt_32 d_E_toolAt_35 d_E_toolAt_38 hout (Nat.le_of_ble_eq_true rfl) (Nat.le_of_ble_eq_true rfl) (Nat.le_of_ble_eq_true rfl) (Nat.le_of_ble_eq_true rfl) hlocks (⟨⟨rfl, fun h => by
      obtain ⟨j, hj, ej⟩ := h
      rw [ej] at c_1
      exact nI_pos (by omega) c_1⟩, rfl⟩) (Nat.le_of_ble_eq_true rfl) (Nat.le_of_ble_eq_true rfl)
  · refine lv_iload_n hx hb d_E_toolAt_4 rfl (lv_at hl 1 rfl) ?_
    refine lv_aload_n hx hb d_E_toolAt_5 rfl (lv_at hl 0 rfl) ?_
    refine m_get (v := .ref (ad 3)) (C := R_E) (T := T_E) (N := 8) hx hb hT in_E hown hC.1 hm 0 rfl ((congrFun hG 0).trans gE_c0) rfl 3 (by decide) (hT _ k_90) (fun _ h9 => h9) rfl d_E_toolAt_6 ?_
    refine m_alen (v := 12) hx hb hC.1 hm 3 rfl 4 ((congrFun hG 3).trans gE_c3) rfl rfl d_E_toolAt_9 ?_
    refine lv_icmp_ge (tgt := 22) hx hb d_E_toolAt_10 (by decide) (fun c_10 => ?_) (fun c_10 => ?_)
    · refine lv_null hx hb d_E_toolAt_22 ?_
      refine lv_astore_nN (lv' := [(2, .null), (0, .ref (ad 0)), (1, .int p0)]) hx hb d_E_toolAt_23 rfl hl (by decide) rfl (fun ls hl => ?_)
      refine lv_aload_nN hx hb d_E_toolAt_24 rfl (lv_at hl 0 rfl) ?_
      refine lv_ifnonnullN hx hb d_E_toolAt_25 ?_
      exact m_throwSW (cls := "java/lang/IndexOutOfBoundsException") (text := "no such tool") (names := ["java/lang/RuntimeException", "java/lang/Exception"]) (tx := mTx) hx hb hlt hown (by decide +kernel) (by decide +kernel) (hT _ k_133) (hT _ k_8) (by decide +kernel) hC (at_IndexOutOfBoundsException hT hC.2.2.2) (good_IndexOutOfBoundsException) hm (hl.1.trans hml.symm) d_E_toolAt_28 d_E_toolAt_31 d_E_toolAt_32 d_E_toolAt_35 d_E_toolAt_38 hout (Nat.le_of_ble_eq_true rfl) (Nat.le_of_ble_eq_true rfl) (Nat.le_of_ble_eq_true rfl) (Nat.le_of_ble_eq_true rfl) hlocks (⟨⟨rfl, fun h => by
        obtain ⟨j, hj, ej⟩ := h
        rw [ej] at c_10
        have := (nI_leI (a := 12) (by decide) (by omega)).mp c_10
        omega⟩, rfl⟩) (Nat.le_of_ble_eq_true rfl) (Nat.le_of_ble_eq_true rfl)
    · obtain ⟨i, hi, ep⟩ : ∃ j : Nat, j < 12 ∧ p0 = nI j := by
        rcases pk_ix p0 (n := 12) (by decide) with h | h | h
        · exact absurd h c_1
        · exact absurd h c_10
        · exact h
      by_cases hi2 : i < tc
      · refine lv_aload_n hx hb d_E_toolAt_13 rfl (lv_at hl 0 rfl) ?_
        refine m_get (v := .ref (ad 3)) (C := R_E) (T := T_E) (N := 8) hx hb hT in_E hown hC.1 hm 0 rfl ((congrFun hG 0).trans gE_c0) rfl 3 (by decide) (hT _ k_90) (fun _ h9 => h9) rfl d_E_toolAt_14 ?_
        refine lv_iload_n hx hb d_E_toolAt_17 rfl (lv_at hl 1 rfl) ?_
        refine m_aald (v := .ref (ad (100 + i))) hx hb hC.1 hm 3 rfl 4 ((congrFun hG 3).trans gE_c3) rfl (by rw [ep]; exact vp_in_nI hi (by decide)) (by rw [ep, nI_clamp (by omega)]; simp only [hi2, if_true]; rfl) d_E_toolAt_18 ?_
        refine lv_goto (tgt := 23) hx hb d_E_toolAt_19 (by decide) ?_
        refine lv_astore_n (lv' := [(2, .ref (ad (100 + i))), (0, .ref (ad 0)), (1, .int p0)]) hx hb d_E_toolAt_23 rfl hl (by decide) rfl (fun ls hl => ?_)
        refine lv_aload_n hx hb d_E_toolAt_24 rfl (lv_at hl 0 rfl) ?_
        refine lv_ifnonnull (tgt := 39) hx hb d_E_toolAt_25 (by decide) ?_
        refine lv_aload_n hx hb d_E_toolAt_39 rfl (lv_at hl 0 rfl) ?_
        refine W.widen (k := 1) (n := 6) (by omega) (by omega) ?_
        refine vx_ret ?_
        exact m_aret (r := some (ad (100 + i))) hx hb hr rfl hm (⟨⟨i, hi2, ep, rfl⟩, rfl⟩) d_E_toolAt_40 hlocks
      · refine lv_aload_n hx hb d_E_toolAt_13 rfl (lv_at hl 0 rfl) ?_
        refine m_get (v := .ref (ad 3)) (C := R_E) (T := T_E) (N := 8) hx hb hT in_E hown hC.1 hm 0 rfl ((congrFun hG 0).trans gE_c0) rfl 3 (by decide) (hT _ k_90) (fun _ h9 => h9) rfl d_E_toolAt_14 ?_
        refine lv_iload_n hx hb d_E_toolAt_17 rfl (lv_at hl 1 rfl) ?_
        refine m_aald (v := .null) hx hb hC.1 hm 3 rfl 4 ((congrFun hG 3).trans gE_c3) rfl (by rw [ep]; exact vp_in_nI hi (by decide)) (by rw [ep, nI_clamp (by omega)]; simp only [hi2, if_false]; rfl) d_E_toolAt_18 ?_
        refine lv_goto (tgt := 23) hx hb d_E_toolAt_19 (by decide) ?_
        refine lv_astore_nN (lv' := [(2, .null), (0, .ref (ad 0)), (1, .int p0)]) hx hb d_E_toolAt_23 rfl hl (by decide) rfl (fun ls hl => ?_)
        refine lv_aload_nN hx hb d_E_toolAt_24 rfl (lv_at hl 0 rfl) ?_
        refine lv_ifnonnullN hx hb d_E_toolAt_25 ?_
        exact m_throwSW (cls := "java/lang/IndexOutOfBoundsException") (text := "no such tool") (names := ["java/lang/RuntimeException", "java/lang/Exception"]) (tx := mTx) hx hb hlt hown (by decide +kernel) (by decide +kernel) (hT _ k_133) (hT _ k_8) (by decide +kernel) hC (at_IndexOutOfBoundsException hT hC.2.2.2) (good_IndexOutOfBoundsException) hm (hl.1.trans hml.symm) d_E_toolAt_28 d_E_toolAt_31 d_E_toolAt_32 d_E_toolAt_35 d_E_toolAt_38 hout (Nat.le_of_ble_eq_true rfl) (Nat.le_of_ble_eq_true rfl) (Nat.le_of_ble_eq_true rfl) (Nat.le_of_ble_eq_true rfl) hlocks (⟨⟨rfl, fun h => by
          obtain ⟨j, hj, ej⟩ := h
          rw [ep] at ej
          have := (nI_eq (by omega) (by omega)).mp ej
          omega⟩, rfl⟩) (Nat.le_of_ble_eq_true rfl) (Nat.le_of_ble_eq_true rfl)

set_option maxHeartbeats 4000000 in
set_option maxRecDepth 100000 in
theorem c_E_sortAt (l : Launch) (hlt : l.stackTraces = false) (D : va_G) (dA : Nat → ClassId) (ad : Nat → Nat) (G : mG) (sz : Nat) (I : Nat → Nat → Int32) (J : Nat → Nat → Int64) (F : Nat → Nat → Nat → Int32) (si : Nat → Nat) (tc oc : Nat) (G0 : mG) (hG : G = gE dA ad I J F si tc oc G0) (ht : tc ≤ 12) (p0 : Int32) : vx_Met l y_E_sortAt (.code y_E_sortAt b_E_sortAt 3 (some (.object "EdgeWear$Sort")) :: mBig) ({ frames := 6, cells := 1, slots := 6, locals := 82 }) (mPc [.ref (ad 0), .int p0] D mCl (mTys dA) mTx ad G sz) (mQq (fun (rv : Option Nat) (u : mU) => (∃ i, i < 4 ∧ p0 = nI i ∧ rv = some (ad (10 + i))) ∧ u = (ad, G)) D mCl ad G sz) (mXC (fun (E : String) (u : mU) => (E = "java/lang/IndexOutOfBoundsException" ∧ ¬ ∃ i, i < 4 ∧ p0 = nI i) ∧ u = (ad, G)) D mCl ad G sz) 1 6 (mA ad G sz) := by
  refine vx_ofW (cc := b_E_sortAt) (maxL := 3) (ret := (some (.object "EdgeWear$Sort"))) (by decide) rfl ?_
  intro p e s m args below meth c s₁ B hml hout hv
  obtain ⟨rfl, hsz, hw0, hC⟩ := hv
  have hx := B.exec
  have hb := B.bytes
  have hr := B.returns
  have hts := atoms_spec (ws := .code y_E_sortAt b_E_sortAt 3 (some (.object "EdgeWear$Sort")) :: mBig) B.pre
  have hT : ∀ w ∈ mBig, w.before _ s = true := fun w h => hts w (List.mem_cons_of_mem _ h)
  have hown : s.vm.findClass "EdgeWear" = some m.cls := findClass_of_methodNamed B.named
  have hlocks := B.notSynchronized
  subst hsz
  have hm := mS.start hw0
  have hA : ∀ q : Nat, s.heap.size ≤ q → mA ad G s.heap.size q := fun q h => Or.inr h
  have hl := lv_entry ([.ref (ad 0), .int p0]) (n := 3) (Nat.le_of_ble_eq_true rfl)
  rw [lg_entry_eq]
  generalize (lg_sl ([.ref (ad 0), .int p0]) ++ List.replicate (3 - (lg_sl ([.ref (ad 0), .int p0])).length) Slot.unset).toArray = ls at hl ⊢
  have hl : lv_has ls 3 [(0, .ref (ad 0)), (1, .int p0)] := hl
  refine lv_iload_n hx hb d_E_sortAt_0 rfl (lv_at hl 1 rfl) ?_
  refine lv_if_lt (tgt := 22) hx hb d_E_sortAt_1 (by decide) (fun c_1 => ?_) (fun c_1 => ?_)
  · refine lv_null hx hb d_E_sortAt_22 ?_
    refine lv_astore_nN (lv' := [(2, .null), (0, .ref (ad 0)), (1, .int p0)]) hx hb d_E_sortAt_23 rfl hl (by decide) rfl (fun ls hl => ?_)
    refine lv_aload_nN hx hb d_E_sortAt_24 rfl (lv_at hl 0 rfl) ?_
    refine lv_ifnonnullN hx hb d_E_sortAt_25 ?_
    exact m_throwSW (cls := "java/lang/IndexOutOfBoundsException") (text := "no such sort") (names := ["java/lang/RuntimeException", "java/lang/Exception"]) (tx := mTx) hx hb hlt hown (by decide +kernel) (by decide +kernel) (hT _ k_133) (hT _ k_8) (by decide +kernel) hC (at_IndexOutOfBoundsException hT hC.2.2.2) (good_IndexOutOfBoundsException) hm (hl.1.trans hml.symm) d_E_sortAt_28 d_E_sortAt_31 d_E_sortAt_32 d_E_sortAt_35 d_E_sortAt_38 hout (Nat.le_of_ble_eq_true rfl) (Nat.le_of_ble_eq_true rfl) (Nat.le_of_ble_eq_true rfl) (Nat.le_of_ble_eq_true rfl) hlocks (⟨⟨rfl, fun h => by
      obtain ⟨j, hj, ej⟩ := h
      rw [ej] at c_1
      exact nI_pos (by omega) c_1⟩, rfl⟩) (Nat.le_of_ble_eq_true rfl) (Nat.le_of_ble_eq_true rfl)
  · refine lv_iload_n hx hb d_E_sortAt_4 rfl (lv_at hl 1 rfl) ?_
    refine lv_aload_n hx hb d_E_sortAt_5 rfl (lv_at hl 0 rfl) ?_
    refine m_get (v := .ref (ad 2)) (C := R_E) (T := T_E) (N := 8) hx hb hT in_E hown hC.1 hm 0 rfl ((congrFun hG 0).trans gE_c0) rfl 2 (by decide) (hT _ k_89) (fun _ h9 => h9) rfl d_E_sortAt_6 ?_
    refine m_alen (v := 4) hx hb hC.1 hm 2 rfl 3 ((congrFun hG 2).trans gE_c2) rfl rfl d_E_sortAt_9 ?_
    refine lv_icmp_ge (tgt := 22) hx hb d_E_sortAt_10 (by decide) (fun c_10 => ?_) (fun c_10 => ?_)
    · refine lv_null hx hb d_E_sortAt_22 ?_
      refine lv_astore_nN (lv' := [(2, .null), (0, .ref (ad 0)), (1, .int p0)]) hx hb d_E_sortAt_23 rfl hl (by decide) rfl (fun ls hl => ?_)
      refine lv_aload_nN hx hb d_E_sortAt_24 rfl (lv_at hl 0 rfl) ?_
      refine lv_ifnonnullN hx hb d_E_sortAt_25 ?_
      exact m_throwSW (cls := "java/lang/IndexOutOfBoundsException") (text := "no such sort") (names := ["java/lang/RuntimeException", "java/lang/Exception"]) (tx := mTx) hx hb hlt hown (by decide +kernel) (by decide +kernel) (hT _ k_133) (hT _ k_8) (by decide +kernel) hC (at_IndexOutOfBoundsException hT hC.2.2.2) (good_IndexOutOfBoundsException) hm (hl.1.trans hml.symm) d_E_sortAt_28 d_E_sortAt_31 d_E_sortAt_32 d_E_sortAt_35 d_E_sortAt_38 hout (Nat.le_of_ble_eq_true rfl) (Nat.le_of_ble_eq_true rfl) (Nat.le_of_ble_eq_true rfl) (Nat.le_of_ble_eq_true rfl) hlocks (⟨⟨rfl, fun h => by
        obtain ⟨j, hj, ej⟩ := h
        rw [ej] at c_10
        have := (nI_leI (a := 4) (by decide) (by omega)).mp c_10
        omega⟩, rfl⟩) (Nat.le_of_ble_eq_true rfl) (Nat.le_of_ble_eq_true rfl)
    · obtain ⟨i, hi, ep⟩ : ∃ j : Nat, j < 4 ∧ p0 = nI j := by
        rcases pk_ix p0 (n := 4) (by decide) with h | h | h
        · exact absurd h c_1
        · exact absurd h c_10
        · exact h
      refine lv_aload_n hx hb d_E_sortAt_13 rfl (lv_at hl 0 rfl) ?_
      refine m_get (v := .ref (ad 2)) (C := R_E) (T := T_E) (N := 8) hx hb hT in_E hown hC.1 hm 0 rfl ((congrFun hG 0).trans gE_c0) rfl 2 (by decide) (hT _ k_89) (fun _ h9 => h9) rfl d_E_sortAt_14 ?_
      refine lv_iload_n hx hb d_E_sortAt_17 rfl (lv_at hl 1 rfl) ?_
      refine m_aald (v := .ref (ad (10 + i))) hx hb hC.1 hm 2 rfl 3 ((congrFun hG 2).trans gE_c2) rfl (by rw [ep]; exact vp_in_nI hi (by decide)) (by rw [ep, nI_clamp (by omega)]; rfl) d_E_sortAt_18 ?_
      refine lv_goto (tgt := 23) hx hb d_E_sortAt_19 (by decide) ?_
      refine lv_astore_n (lv' := [(2, .ref (ad (10 + i))), (0, .ref (ad 0)), (1, .int p0)]) hx hb d_E_sortAt_23 rfl hl (by decide) rfl (fun ls hl => ?_)
      refine lv_aload_n hx hb d_E_sortAt_24 rfl (lv_at hl 0 rfl) ?_
      refine lv_ifnonnull (tgt := 39) hx hb d_E_sortAt_25 (by decide) ?_
      refine lv_aload_n hx hb d_E_sortAt_39 rfl (lv_at hl 0 rfl) ?_
      refine W.widen (k := 1) (n := 6) (by omega) (by omega) ?_
      refine vx_ret ?_
      exact m_aret (r := some (ad (10 + i))) hx hb hr rfl hm (⟨⟨i, hi, ep, rfl⟩, rfl⟩) d_E_sortAt_40 hlocks

set_option maxHeartbeats 4000000 in
set_option maxRecDepth 100000 in
theorem c_E_rateIndex (l : Launch) (hlt : l.stackTraces = false) (D : va_G) (dA : Nat → ClassId) (ad : Nat → Nat) (G : mG) (sz : Nat) (I : Nat → Nat → Int32) (J : Nat → Nat → Int64) (F : Nat → Nat → Nat → Int32) (si : Nat → Nat) (tc oc : Nat) (G0 : mG) (hG : G = gE dA ad I J F si tc oc G0) (ht : tc ≤ 12) (p0 p1 : Int32) : vx_Met l y_E_rateIndex (.code y_E_rateIndex b_E_rateIndex 2 (some .int) :: mBig) ({ frames := 6, cells := 1, slots := 6, locals := 82 }) (mPc [.int p0, .int p1] D mCl (mTys dA) mTx ad G sz) (mQi (fun (rv : Int32) (u : mU) => (∃ a b, a < 4 ∧ b < 4 ∧ p0 = nI a ∧ p1 = nI b ∧ rv = nI (4 * a + b)) ∧ u = (ad, G)) D mCl ad G sz) (mXC (fun (E : String) (u : mU) => (E = "java/lang/IndexOutOfBoundsException" ∧ ¬ ((∃ a, a < 4 ∧ p0 = nI a) ∧ ∃ b, b < 4 ∧ p1 = nI b)) ∧ u = (ad, G)) D mCl ad G sz) 1 6 (mA ad G sz) := by
  refine vx_ofW (cc := b_E_rateIndex) (maxL := 2) (ret := (some .int)) (by decide) rfl ?_
  intro p e s m args below meth c s₁ B hml hout hv
  obtain ⟨rfl, hsz, hw0, hC⟩ := hv
  have hx := B.exec
  have hb := B.bytes
  have hr := B.returns
  have hts := atoms_spec (ws := .code y_E_rateIndex b_E_rateIndex 2 (some .int) :: mBig) B.pre
  have hT : ∀ w ∈ mBig, w.before _ s = true := fun w h => hts w (List.mem_cons_of_mem _ h)
  have hown : s.vm.findClass "EdgeWear" = some m.cls := findClass_of_methodNamed B.named
  have hlocks := B.notSynchronized
  subst hsz
  have hm := mS.start hw0
  have hA : ∀ q : Nat, s.heap.size ≤ q → mA ad G s.heap.size q := fun q h => Or.inr h
  have hl := lv_entry ([.int p0, .int p1]) (n := 2) (Nat.le_of_ble_eq_true rfl)
  rw [lg_entry_eq]
  generalize (lg_sl ([.int p0, .int p1]) ++ List.replicate (2 - (lg_sl ([.int p0, .int p1])).length) Slot.unset).toArray = ls at hl ⊢
  have hl : lv_has ls 2 [(0, .int p0), (1, .int p1)] := hl
  refine lv_iload_n hx hb d_E_rateIndex_0 rfl (lv_at hl 0 rfl) ?_
  refine lv_if_lt (tgt := 18) hx hb d_E_rateIndex_1 (by decide) (fun c_1 => ?_) (fun c_1 => ?_)
  · exact m_throwSW (cls := "java/lang/IndexOutOfBoundsException") (text := "no such kind or speed") (names := ["java/lang/RuntimeException", "java/lang/Exception"]) (tx := mTx) hx hb hlt hown (by decide +kernel) (by decide +kernel) (hT _ k_133) (hT _ k_8) (by decide +kernel) hC (at_IndexOutOfBoundsException hT hC.2.2.2) (good_IndexOutOfBoundsException) hm (hl.1.trans hml.symm) d_E_rateIndex_18 d_E_rateIndex_21 d_E_rateIndex_22 d_E_rateIndex_25 d_E_rateIndex_28 hout (Nat.le_of_ble_eq_true rfl) (Nat.le_of_ble_eq_true rfl) (Nat.le_of_ble_eq_true rfl) (Nat.le_of_ble_eq_true rfl) hlocks (⟨⟨rfl, by
      rintro ⟨⟨a, ha, ea⟩, b, hb9, eb⟩
      subst ea; subst eb
      exact nI_pos (by omega) c_1⟩, rfl⟩) (Nat.le_of_ble_eq_true rfl) (Nat.le_of_ble_eq_true rfl)
  · refine lv_iload_n hx hb d_E_rateIndex_4 rfl (lv_at hl 0 rfl) ?_
    refine lv_iconst (v := 4) hx hb d_E_rateIndex_5 (by decide) ?_
    refine lv_icmp_ge (tgt := 18) hx hb d_E_rateIndex_6 (by decide) (fun c_6 => ?_) (fun c_6 => ?_)
    · exact m_throwSW (cls := "java/lang/IndexOutOfBoundsException") (text := "no such kind or speed") (names := ["java/lang/RuntimeException", "java/lang/Exception"]) (tx := mTx) hx hb hlt hown (by decide +kernel) (by decide +kernel) (hT _ k_133) (hT _ k_8) (by decide +kernel) hC (at_IndexOutOfBoundsException hT hC.2.2.2) (good_IndexOutOfBoundsException) hm (hl.1.trans hml.symm) d_E_rateIndex_18 d_E_rateIndex_21 d_E_rateIndex_22 d_E_rateIndex_25 d_E_rateIndex_28 hout (Nat.le_of_ble_eq_true rfl) (Nat.le_of_ble_eq_true rfl) (Nat.le_of_ble_eq_true rfl) (Nat.le_of_ble_eq_true rfl) hlocks (⟨⟨rfl, by
        rintro ⟨⟨a, ha, ea⟩, b, hb9, eb⟩
        subst ea; subst eb
        exact nI_ge (b := 4) ha (by decide) c_6⟩, rfl⟩) (Nat.le_of_ble_eq_true rfl) (Nat.le_of_ble_eq_true rfl)
    · refine lv_iload_n hx hb d_E_rateIndex_9 rfl (lv_at hl 1 rfl) ?_
      refine lv_if_lt (tgt := 18) hx hb d_E_rateIndex_10 (by decide) (fun c_10 => ?_) (fun c_10 => ?_)
      · exact m_throwSW (cls := "java/lang/IndexOutOfBoundsException") (text := "no such kind or speed") (names := ["java/lang/RuntimeException", "java/lang/Exception"]) (tx := mTx) hx hb hlt hown (by decide +kernel) (by decide +kernel) (hT _ k_133) (hT _ k_8) (by decide +kernel) hC (at_IndexOutOfBoundsException hT hC.2.2.2) (good_IndexOutOfBoundsException) hm (hl.1.trans hml.symm) d_E_rateIndex_18 d_E_rateIndex_21 d_E_rateIndex_22 d_E_rateIndex_25 d_E_rateIndex_28 hout (Nat.le_of_ble_eq_true rfl) (Nat.le_of_ble_eq_true rfl) (Nat.le_of_ble_eq_true rfl) (Nat.le_of_ble_eq_true rfl) hlocks (⟨⟨rfl, by
          rintro ⟨⟨a, ha, ea⟩, b, hb9, eb⟩
          subst ea; subst eb
          exact nI_pos (by omega) c_10⟩, rfl⟩) (Nat.le_of_ble_eq_true rfl) (Nat.le_of_ble_eq_true rfl)
      · refine lv_iload_n hx hb d_E_rateIndex_13 rfl (lv_at hl 1 rfl) ?_
        refine lv_iconst (v := 4) hx hb d_E_rateIndex_14 (by decide) ?_
        refine lv_icmp_lt (tgt := 29) hx hb d_E_rateIndex_15 (by decide) (fun c_15 => ?_) (fun c_15 => ?_)
        · obtain ⟨a, ha, ea⟩ : ∃ j : Nat, j < 4 ∧ p0 = nI j := by
            rcases pk_ix p0 (n := 4) (by decide) with h | h | h
            · exact absurd h c_1
            · exact absurd h c_6
            · exact h
          obtain ⟨b, hb9, eb⟩ : ∃ j : Nat, j < 4 ∧ p1 = nI j := by
            rcases pk_ix p1 (n := 4) (by decide) with h | h | h
            · exact absurd h c_10
            · exact absurd c_15 (Int32.not_lt.mpr h)
            · exact h
          refine lv_iload_n hx hb d_E_rateIndex_29 rfl (lv_at hl 0 rfl) ?_
          refine lv_iconst (v := 4) hx hb d_E_rateIndex_30 (by decide) ?_
          refine lv_imul hx hb d_E_rateIndex_31 ?_
          refine lv_topi (fun x_1 ex_1 => ?_)
          refine lv_iload_n hx hb d_E_rateIndex_32 rfl (lv_at hl 1 rfl) ?_
          refine lv_iadd hx hb d_E_rateIndex_33 ?_
          refine lv_topi (fun x_2 ex_2 => ?_)
          refine W.widen (k := 1) (n := 6) (by omega) (by omega) ?_
          refine vx_ret ?_
          exact m_iret (v := x_2) hx hb hr hm (⟨⟨a, b, ha, hb9, ea, eb, by rw [ex_2, ex_1, ea, eb, show (4 : Int32) = nI 4 from rfl, pk_mul, nI_add, Nat.mul_comm]⟩, rfl⟩) d_E_rateIndex_34 hlocks
        · exact m_throwSW (cls := "java/lang/IndexOutOfBoundsException") (text := "no such kind or speed") (names := ["java/lang/RuntimeException", "java/lang/Exception"]) (tx := mTx) hx hb hlt hown (by decide +kernel) (by decide +kernel) (hT _ k_133) (hT _ k_8) (by decide +kernel) hC (at_IndexOutOfBoundsException hT hC.2.2.2) (good_IndexOutOfBoundsException) hm (hl.1.trans hml.symm) d_E_rateIndex_18 d_E_rateIndex_21 d_E_rateIndex_22 d_E_rateIndex_25 d_E_rateIndex_28 hout (Nat.le_of_ble_eq_true rfl) (Nat.le_of_ble_eq_true rfl) (Nat.le_of_ble_eq_true rfl) (Nat.le_of_ble_eq_true rfl) hlocks (⟨⟨rfl, by
            rintro ⟨⟨a, ha, ea⟩, b, hb9, eb⟩
            subst ea; subst eb
            exact c_15 (nI_lt (b := 4) hb9 (by decide))⟩, rfl⟩) (Nat.le_of_ble_eq_true rfl) (Nat.le_of_ble_eq_true rfl)
end
section
set_option maxHeartbeats 4000000 in
set_option maxRecDepth 100000 in
theorem c_E_rate (l : Launch) (hlt : l.stackTraces = false) (D : va_G) (dA : Nat → ClassId) (ad : Nat → Nat) (G : mG) (sz : Nat) (I : Nat → Nat → Int32) (J : Nat → Nat → Int64) (F : Nat → Nat → Nat → Int32) (si : Nat → Nat) (tc oc : Nat) (G0 : mG) (hG : G = gE dA ad I J F si tc oc G0) (ht : tc ≤ 12) (p0 p1 p2 : Int32) : vx_Met l y_E_rate (.code y_E_rate b_E_rate 5 none :: mBig) ({ frames := 7, cells := 2, slots := 12, locals := 103 }) (mPc [.ref (ad 0), .int p0, .int p1, .int p2] D mCl (mTys dA) mTx ad G sz) (mQv (fun (u : mU) => (∃ a b, a < 4 ∧ b < 4 ∧ p0 = nI a ∧ p1 = nI b ∧ ¬ (p2 < 0 ∨ 1000000 < p2) ∧ u = (ad, gE dA ad (up2 I 1 (4 * a + b) p2) J F si tc oc G0))) D mCl ad G sz) (mXC (fun (E : String) (u : mU) => ((E = "java/lang/IndexOutOfBoundsException" ∧ ¬ ((∃ a, a < 4 ∧ p0 = nI a) ∧ ∃ b, b < 4 ∧ p1 = nI b)) ∨ (E = "java/lang/IllegalArgumentException" ∧ ((∃ a, a < 4 ∧ p0 = nI a) ∧ ∃ b, b < 4 ∧ p1 = nI b) ∧ (p2 < 0 ∨ 1000000 < p2))) ∧ u = (ad, G)) D mCl ad G sz) 2 12 (mA ad G sz) := by
  refine vx_ofW (cc := b_E_rate) (maxL := 5) (ret := none) (by decide) rfl ?_
  intro p e s m args below meth c s₁ B hml hout hv
  obtain ⟨rfl, hsz, hw0, hC⟩ := hv
  have hx := B.exec
  have hb := B.bytes
  have hr := B.returns
  have hts := atoms_spec (ws := .code y_E_rate b_E_rate 5 none :: mBig) B.pre
  have hT : ∀ w ∈ mBig, w.before _ s = true := fun w h => hts w (List.mem_cons_of_mem _ h)
  have hown : s.vm.findClass "EdgeWear" = some m.cls := findClass_of_methodNamed B.named
  have hlocks := B.notSynchronized
  subst hsz
  have hm := mS.start hw0
  have hA : ∀ q : Nat, s.heap.size ≤ q → mA ad G s.heap.size q := fun q h => Or.inr h
  have hl := lv_entry ([.ref (ad 0), .int p0, .int p1, .int p2]) (n := 5) (Nat.le_of_ble_eq_true rfl)
  rw [lg_entry_eq]
  generalize (lg_sl ([.ref (ad 0), .int p0, .int p1, .int p2]) ++ List.replicate (5 - (lg_sl ([.ref (ad 0), .int p0, .int p1, .int p2])).length) Slot.unset).toArray = ls at hl ⊢
  have hl : lv_has ls 5 [(0, .ref (ad 0)), (1, .int p0), (2, .int p1), (3, .int p2)] := hl
  refine lv_iload_n hx hb d_E_rate_0 rfl (lv_at hl 1 rfl) ?_
  refine lv_iload_n hx hb d_E_rate_1 rfl (lv_at hl 2 rfl) ?_
  refine x_roi (x_runS (As := [.int p0, .int p1]) (rest := []) ⟨hx, hb, hml, hown, hts⟩ (c_E_rateIndex l hlt D dA ad G s.heap.size I J F si tc oc G0 hG ht p0 p1) (va_cwS 2 hts (gS k_301 k_299 k_300 k_1) rfl rfl rfl (by decide +kernel) ⟨Nat.le_of_ble_eq_true rfl, Nat.le_of_ble_eq_true rfl⟩) hm hA hC rfl hl.1 rfl (Nat.le_of_ble_eq_true rfl) d_E_rate_2 ⟨Nat.le_of_ble_eq_true rfl, Nat.le_of_ble_eq_true rfl⟩) hm hA (fun E ce q9 H locs w_2 hm h7 h8 h9 => ?_) (fun r_1 H locs w_2 hm => ?_)
  · exact m_out hout hlocks hm h7 h8 h9 (by
      obtain ⟨rfl, hq⟩ := w_2
      exact ⟨Or.inl ⟨rfl, hq⟩, rfl⟩) (by decide) (by decide)
  · obtain ⟨a, b, ha4, hb4, ea, eb, er⟩ := w_2
    subst er
    refine lv_istore (lv' := [(4, .int (nI (4 * a + b))), (0, .ref (ad 0)), (1, .int p0), (2, .int p1), (3, .int p2)]) hx hb d_E_rate_5 hl (by decide) rfl (fun ls hl => ?_)
    refine lv_iload_n hx hb d_E_rate_7 rfl (lv_at hl 4 rfl) ?_
    refine lv_if_lt (tgt := 17) hx hb d_E_rate_8 (by decide) (fun c_8 => ?_) (fun c_8 => ?_)
    · exact m_throwS (cls := "java/lang/IllegalArgumentException") (text := "rate is not 0 .. 1000000") (names := ["java/lang/RuntimeException", "java/lang/Exception"]) (tx := mTx) hx hb hlt hown (by decide +kernel) (by decide +kernel) (hT _ k_202) (hT _ k_9) (by decide +kernel) hC (at_IllegalArgumentException hT hC.2.2.2) (good_IllegalArgumentException) hm (hl.1.trans hml.symm) d_E_rate_17 d_E_rate_20 d_E_rate_21 d_E_rate_23 d_E_rate_26 hout (Nat.le_of_ble_eq_true rfl) (Nat.le_of_ble_eq_true rfl) (Nat.le_of_ble_eq_true rfl) (Nat.le_of_ble_eq_true rfl) hlocks (⟨Or.inr ⟨rfl, ⟨⟨a, ha4, ea⟩, ⟨b, hb4, eb⟩⟩, Or.inl c_8⟩, rfl⟩) (Nat.le_of_ble_eq_true rfl) (Nat.le_of_ble_eq_true rfl)
    · refine lv_iload_n hx hb d_E_rate_11 rfl (lv_at hl 4 rfl) ?_
      refine lv_ldc (v := 1000000) hx hb hown (hT _ k_201) d_E_rate_12 ?_
      refine lv_icmp_le (tgt := 27) hx hb d_E_rate_14 (by decide) (fun c_14 => ?_) (fun c_14 => ?_)
      · refine lv_aload_n hx hb d_E_rate_27 rfl (lv_at hl 1 rfl) ?_
        refine m_get (v := .ref (ad 1)) (C := R_E) (T := T_E) (N := 8) hx hb hT in_E hown hC.1 hm 0 rfl ((congrFun hG 0).trans gE_c0) rfl 1 (by decide) (hT _ k_88) (fun _ h9 => h9) rfl d_E_rate_28 ?_
        refine lv_iload hx hb d_E_rate_31 (lv_at hl 0 rfl) ?_
        refine lv_iload_n hx hb d_E_rate_33 rfl (lv_at hl 4 rfl) ?_
        refine m_iast hx hb hC.1 hm 1 rfl 0 ((congrFun hG 1).trans gE_c1) rfl (vp_in_nI (by omega) (by decide)) d_E_rate_34 (fun H locs hm => ?_)
        rw [nI_clamp (show 4 * a + b < 2 ^ 31 by omega)] at hm
        obtain ⟨G_3, eG_3⟩ : ∃ z : mG, z = va_up G 1 (some (.inl ((dA 0), 16, .inl (upd (I 1) (4 * a + b) p2)))) := ⟨_, rfl⟩
        have hm : mS D mCl (mA ad G s.heap.size) s.heap ad G_3 H locs := by rw [eG_3]; exact hm
        have g_4 := (congrFun eG_3 0).trans ((va_up_ne _ _ (by omega)).trans ((congrFun hG 0).trans gE_c0))
        have g_5 : G_3 1 = some (.inl ((dA 0), 16, .inl (upd (I 1) (4 * a + b) p2))) := by rw [eG_3, va_up_self]
        have g_6 := (congrFun eG_3 2).trans ((va_up_ne _ _ (by omega)).trans ((congrFun hG 2).trans gE_c2))
        have g_7 := (congrFun eG_3 3).trans ((va_up_ne _ _ (by omega)).trans ((congrFun hG 3).trans gE_c3))
        have g_8 := (congrFun eG_3 4).trans ((va_up_ne _ _ (by omega)).trans ((congrFun hG 4).trans gE_c4))
        have g_9 := (congrFun eG_3 5).trans ((va_up_ne _ _ (by omega)).trans ((congrFun hG 5).trans gE_c5))
        refine W.widen (k := 2) (n := 12) (by omega) (by omega) ?_
        refine vx_ret ?_
        exact m_vret hx hb hr hm (⟨a, b, ha4, hb4, ea, eb, fun h => h.elim c_8 (fun h => Int32.not_lt.mpr c_14 h), by rw [eG_3, hG, gE_urate]⟩) d_E_rate_35 hlocks
      · exact m_throwS (cls := "java/lang/IllegalArgumentException") (text := "rate is not 0 .. 1000000") (names := ["java/lang/RuntimeException", "java/lang/Exception"]) (tx := mTx) hx hb hlt hown (by decide +kernel) (by decide +kernel) (hT _ k_202) (hT _ k_9) (by decide +kernel) hC (at_IllegalArgumentException hT hC.2.2.2) (good_IllegalArgumentException) hm (hl.1.trans hml.symm) d_E_rate_17 d_E_rate_20 d_E_rate_21 d_E_rate_23 d_E_rate_26 hout (Nat.le_of_ble_eq_true rfl) (Nat.le_of_ble_eq_true rfl) (Nat.le_of_ble_eq_true rfl) (Nat.le_of_ble_eq_true rfl) hlocks (⟨Or.inr ⟨rfl, ⟨⟨a, ha4, ea⟩, ⟨b, hb4, eb⟩⟩, Or.inr (Int32.not_le.mp c_14)⟩, rfl⟩) (Nat.le_of_ble_eq_true rfl) (Nat.le_of_ble_eq_true rfl)

set_option maxHeartbeats 4000000 in
set_option maxRecDepth 100000 in
theorem c_E_limit (l : Launch) (hlt : l.stackTraces = false) (D : va_G) (dA : Nat → ClassId) (ad : Nat → Nat) (G : mG) (sz : Nat) (I : Nat → Nat → Int32) (J : Nat → Nat → Int64) (F : Nat → Nat → Nat → Int32) (si : Nat → Nat) (tc oc : Nat) (G0 : mG) (hG : G = gE dA ad I J F si tc oc G0) (ht : tc ≤ 12) (p0 : Int32) (p1 : Int64) : vx_Met l y_E_limit (.code y_E_limit b_E_limit 5 none :: mBig) ({ frames := 7, cells := 2, slots := 12, locals := 104 }) (mPc [.ref (ad 0), .int p0, .long p1] D mCl (mTys dA) mTx ad G sz) (mQv (fun (u : mU) => (∃ i, i < 4 ∧ p0 = nI i ∧ ¬ (p1 < 1 ∨ 1000000000000 < p1) ∧ u = (ad, gE dA ad I (up2 J 0 i p1) F si tc oc G0))) D mCl ad G sz) (mXC (fun (E : String) (u : mU) => ((E = "java/lang/IndexOutOfBoundsException" ∧ ¬ ∃ i, i < 4 ∧ p0 = nI i) ∨ (E = "java/lang/IllegalArgumentException" ∧ (∃ i, i < 4 ∧ p0 = nI i) ∧ (p1 < 1 ∨ 1000000000000 < p1))) ∧ u = (ad, G)) D mCl ad G sz) 2 12 (mA ad G sz) := by
  refine vx_ofW (cc := b_E_limit) (maxL := 5) (ret := none) (by decide) rfl ?_
  intro p e s m args below meth c s₁ B hml hout hv
  obtain ⟨rfl, hsz, hw0, hC⟩ := hv
  have hx := B.exec
  have hb := B.bytes
  have hr := B.returns
  have hts := atoms_spec (ws := .code y_E_limit b_E_limit 5 none :: mBig) B.pre
  have hT : ∀ w ∈ mBig, w.before _ s = true := fun w h => hts w (List.mem_cons_of_mem _ h)
  have hown : s.vm.findClass "EdgeWear" = some m.cls := findClass_of_methodNamed B.named
  have hlocks := B.notSynchronized
  subst hsz
  have hm := mS.start hw0
  have hA : ∀ q : Nat, s.heap.size ≤ q → mA ad G s.heap.size q := fun q h => Or.inr h
  have hl := lv_entry ([.ref (ad 0), .int p0, .long p1]) (n := 5) (Nat.le_of_ble_eq_true rfl)
  rw [lg_entry_eq]
  generalize (lg_sl ([.ref (ad 0), .int p0, .long p1]) ++ List.replicate (5 - (lg_sl ([.ref (ad 0), .int p0, .long p1])).length) Slot.unset).toArray = ls at hl ⊢
  have hl : lv_has ls 5 [(0, .ref (ad 0)), (1, .int p0), (2, .long p1)] := hl
  refine lv_aload_n hx hb d_E_limit_0 rfl (lv_at hl 0 rfl) ?_
  refine lv_iload_n hx hb d_E_limit_1 rfl (lv_at hl 1 rfl) ?_
  refine x_roq (x_runV (As := [.int p0]) (rest := []) ⟨hx, hb, hml, hown, hts⟩ (c_E_sortAt l hlt D dA ad G s.heap.size I J F si tc oc G0 hG ht p0) (cwV 1 hts (gV k_132 k_129 k_131 ks_0 k_1) rfl rfl rfl (by decide +kernel) ⟨Nat.le_of_ble_eq_true rfl, Nat.le_of_ble_eq_true rfl⟩) hm hA hC 0 rfl ((congrFun hG 0).trans gE_c0) rfl rfl rfl hl.1 rfl (Nat.le_of_ble_eq_true rfl) d_E_limit_2 ⟨Nat.le_of_ble_eq_true rfl, Nat.le_of_ble_eq_true rfl⟩) hm hA (fun E ce q9 H locs w_2 hm h7 h8 h9 => ?_) (fun r_1 H locs w_2 hm => ?_)
  · exact m_out hout hlocks hm h7 h8 h9 (by
      obtain ⟨rfl, hq⟩ := w_2
      exact ⟨Or.inl ⟨rfl, hq⟩, rfl⟩) (by decide) (by decide)
  · obtain ⟨i, hi, epi, er⟩ := w_2
    subst er
    rw [show va_rf (some (ad (10 + i))) = .ref (ad (10 + i)) from rfl]
    refine lv_astore (lv' := [(4, .ref (ad (10 + i))), (0, .ref (ad 0)), (1, .int p0), (2, .long p1)]) hx hb d_E_limit_5 hl (by decide) rfl (fun ls hl => ?_)
    refine lv_lload_n hx hb d_E_limit_7 rfl (lv_at hl 3 rfl) ?_
    refine lv_lconst (v := 1) hx hb d_E_limit_8 (by decide) ?_
    refine W.lcmp hx hb d_E_limit_9 ?_
    refine lv_if_lt (tgt := 21) hx hb d_E_limit_10 (by decide) (fun c_10 => ?_) (fun c_10 => ?_)
    · exact m_throwS (cls := "java/lang/IllegalArgumentException") (text := "limit is not 1 .. 10^12") (names := ["java/lang/RuntimeException", "java/lang/Exception"]) (tx := mTx) hx hb hlt hown (by decide +kernel) (by decide +kernel) (hT _ k_202) (hT _ k_9) (by decide +kernel) hC (at_IllegalArgumentException hT hC.2.2.2) (good_IllegalArgumentException) hm (hl.1.trans hml.symm) d_E_limit_21 d_E_limit_24 d_E_limit_25 d_E_limit_27 d_E_limit_30 hout (Nat.le_of_ble_eq_true rfl) (Nat.le_of_ble_eq_true rfl) (Nat.le_of_ble_eq_true rfl) (Nat.le_of_ble_eq_true rfl) hlocks (⟨Or.inr ⟨rfl, ⟨i, hi, epi⟩, Or.inl ((lg_lt _ _).mp c_10)⟩, rfl⟩) (Nat.le_of_ble_eq_true rfl) (Nat.le_of_ble_eq_true rfl)
    · refine lv_lload_n hx hb d_E_limit_13 rfl (lv_at hl 3 rfl) ?_
      refine lv_ldc2 (v := 1000000000000) hx hb hown (hT _ k_311) d_E_limit_14 ?_
      refine W.lcmp hx hb d_E_limit_17 ?_
      refine lv_if_le (tgt := 31) hx hb d_E_limit_18 (by decide) (fun c_18 => ?_) (fun c_18 => ?_)
      · refine lv_aload hx hb d_E_limit_31 (lv_at hl 0 rfl) ?_
        refine lv_lload_n hx hb d_E_limit_33 rfl (lv_at hl 3 rfl) ?_
        refine m_put (v := .long p1) (ty := .long) (C := R_So) (T := T_So) (N := 6) hx hb hT in_So t_So tok_So nm_So hown hC.1 hm (10 + i) rfl ((congrFun hG (10 + i)).trans (gE_so hi)) rfl 3 (by decide) (hT _ k_41) (fun _ h9 => h9) rfl (by decide +kernel) rfl rfl (Nat.le_of_ble_eq_true rfl) d_E_limit_34 (fun H locs hm => ?_)
        obtain ⟨G_3, eG_3⟩ : ∃ z : mG, z = va_up G (10 + i) (some (.inr (3, [.int (nI i), .ref (ad (20 + i)), .int (I 2 i), .long p1, .int (I 3 i), .int (I 4 i)]))) := ⟨_, rfl⟩
        have hm : mS D mCl (mA ad G s.heap.size) s.heap ad G_3 H locs := by rw [eG_3]; exact hm
        have g_4 := (congrFun eG_3 0).trans ((va_up_ne _ _ (by omega)).trans ((congrFun hG 0).trans gE_c0))
        have g_5 := (congrFun eG_3 1).trans ((va_up_ne _ _ (by omega)).trans ((congrFun hG 1).trans gE_c1))
        have g_6 := (congrFun eG_3 2).trans ((va_up_ne _ _ (by omega)).trans ((congrFun hG 2).trans gE_c2))
        have g_7 := (congrFun eG_3 3).trans ((va_up_ne _ _ (by omega)).trans ((congrFun hG 3).trans gE_c3))
        have g_8 := (congrFun eG_3 4).trans ((va_up_ne _ _ (by omega)).trans ((congrFun hG 4).trans gE_c4))
        have g_9 := (congrFun eG_3 5).trans ((va_up_ne _ _ (by omega)).trans ((congrFun hG 5).trans gE_c5))
        have g_10 : G_3 (10 + i) = some (.inr (3, [.int (nI i), .ref (ad (20 + i)), .int (I 2 i), .long p1, .int (I 3 i), .int (I 4 i)])) := by rw [eG_3, va_up_self]
        have g_11 := (congrFun eG_3 (20 + i)).trans ((va_up_ne _ _ (by omega)).trans ((congrFun hG (20 + i)).trans (gE_li hi)))
        refine W.widen (k := 2) (n := 12) (by omega) (by omega) ?_
        refine vx_ret ?_
        exact m_vret hx hb hr hm (⟨i, hi, epi, fun h => h.elim (fun h => c_10 ((lg_lt _ _).mpr h)) (fun h => (lg_le _ _).mp c_18 h), by rw [eG_3, hG, gE_usort hi, up2_id, up2_id, up2_id]⟩) d_E_limit_37 hlocks
      · exact m_throwS (cls := "java/lang/IllegalArgumentException") (text := "limit is not 1 .. 10^12") (names := ["java/lang/RuntimeException", "java/lang/Exception"]) (tx := mTx) hx hb hlt hown (by decide +kernel) (by decide +kernel) (hT _ k_202) (hT _ k_9) (by decide +kernel) hC (at_IllegalArgumentException hT hC.2.2.2) (good_IllegalArgumentException) hm (hl.1.trans hml.symm) d_E_limit_21 d_E_limit_24 d_E_limit_25 d_E_limit_27 d_E_limit_30 hout (Nat.le_of_ble_eq_true rfl) (Nat.le_of_ble_eq_true rfl) (Nat.le_of_ble_eq_true rfl) (Nat.le_of_ble_eq_true rfl) hlocks (⟨Or.inr ⟨rfl, ⟨i, hi, epi⟩, Or.inr (Classical.not_not.mp (fun q => c_18 ((lg_le _ _).mpr q)))⟩, rfl⟩) (Nat.le_of_ble_eq_true rfl) (Nat.le_of_ble_eq_true rfl)

set_option maxHeartbeats 4000000 in
set_option maxRecDepth 100000 in
theorem c_E_grind (l : Launch) (hlt : l.stackTraces = false) (D : va_G) (dA : Nat → ClassId) (ad : Nat → Nat) (G : mG) (sz : Nat) (I : Nat → Nat → Int32) (J : Nat → Nat → Int64) (F : Nat → Nat → Nat → Int32) (si : Nat → Nat) (tc oc : Nat) (G0 : mG) (hG : G = gE dA ad I J F si tc oc G0) (ht : tc ≤ 12) (p0 p1 : Int32) : vx_Met l y_E_grind (.code y_E_grind b_E_grind 4 (some .boolean) :: mBig) ({ frames := 7, cells := 2, slots := 12, locals := 104 }) (mPc [.ref (ad 0), .int p0, .int p1] D mCl (mTys dA) mTx ad G sz) (mQi (fun (rv : Int32) (u : mU) => (∃ i, i < tc ∧ p0 = nI i ∧ ¬ (p1 < 1 ∨ 1000000 < p1) ∧ I 7 i = 0 ∧ (if I 5 i - p1 < I 6 i then rv = 0 ∧ u = (ad, gE dA ad (up2 I 7 i 1) J F si tc oc G0) else rv = 1 ∧ u = (ad, gE dA ad (up2 I 5 i (I 5 i - p1)) (up2 (up2 J 1 i 0) 3 i (J 3 i + 1)) F si tc oc G0)))) D mCl ad G sz) (mXC (fun (E : String) (u : mU) => ((E = "java/lang/IndexOutOfBoundsException" ∧ ¬ (∃ i, i < tc ∧ p0 = nI i)) ∨ (E = "java/lang/IllegalArgumentException" ∧ (∃ i, i < tc ∧ p0 = nI i) ∧ (p1 < 1 ∨ 1000000 < p1)) ∨ (E = "java/lang/IllegalStateException" ∧ (∃ i, i < tc ∧ p0 = nI i ∧ ¬ I 7 i = 0) ∧ ¬ (p1 < 1 ∨ 1000000 < p1))) ∧ u = (ad, G)) D mCl ad G sz) 2 12 (mA ad G sz) := by
  refine vx_ofW (cc := b_E_grind) (maxL := 4) (ret := (some .boolean)) (by decide) rfl ?_
  intro p e s m args below meth c s₁ B hml hout hv
  obtain ⟨rfl, hsz, hw0, hC⟩ := hv
  have hx := B.exec
  have hb := B.bytes
  have hr := B.returns
  have hts := atoms_spec (ws := .code y_E_grind b_E_grind 4 (some .boolean) :: mBig) B.pre
  have hT : ∀ w ∈ mBig, w.before _ s = true := fun w h => hts w (List.mem_cons_of_mem _ h)
  have hown : s.vm.findClass "EdgeWear" = some m.cls := findClass_of_methodNamed B.named
  have hlocks := B.notSynchronized
  subst hsz
  have hm := mS.start hw0
  have hA : ∀ q : Nat, s.heap.size ≤ q → mA ad G s.heap.size q := fun q h => Or.inr h
  have hl := lv_entry ([.ref (ad 0), .int p0, .int p1]) (n := 4) (Nat.le_of_ble_eq_true rfl)
  rw [lg_entry_eq]
  generalize (lg_sl ([.ref (ad 0), .int p0, .int p1]) ++ List.replicate (4 - (lg_sl ([.ref (ad 0), .int p0, .int p1])).length) Slot.unset).toArray = ls at hl ⊢
  have hl : lv_has ls 4 [(0, .ref (ad 0)), (1, .int p0), (2, .int p1)] := hl
  refine lv_aload_n hx hb d_E_grind_0 rfl (lv_at hl 0 rfl) ?_
  refine lv_iload_n hx hb d_E_grind_1 rfl (lv_at hl 1 rfl) ?_
  refine x_roq (x_runV (As := [.int p0]) (rest := []) ⟨hx, hb, hml, hown, hts⟩ (c_E_toolAt l hlt D dA ad G s.heap.size I J F si tc oc G0 hG ht p0) (cwV 1 hts (gV k_323 k_320 k_322 ks_2 k_1) rfl rfl rfl (by decide +kernel) ⟨Nat.le_of_ble_eq_true rfl, Nat.le_of_ble_eq_true rfl⟩) hm hA hC 0 rfl ((congrFun hG 0).trans gE_c0) rfl rfl rfl hl.1 rfl (Nat.le_of_ble_eq_true rfl) d_E_grind_2 ⟨Nat.le_of_ble_eq_true rfl, Nat.le_of_ble_eq_true rfl⟩) hm hA (fun E ce q9 H locs w_2 hm h7 h8 h9 => ?_) (fun r_1 H locs w_2 hm => ?_)
  · exact m_out hout hlocks hm h7 h8 h9 (by
      obtain ⟨rfl, hq⟩ := w_2
      exact ⟨Or.inl ⟨rfl, hq⟩, rfl⟩) (by decide) (by decide)
  · obtain ⟨i, hi, epi, er⟩ := w_2
    subst er
    rw [show va_rf (some (ad (100 + i))) = .ref (ad (100 + i)) from rfl]
    refine lv_astore_n (lv' := [(3, .ref (ad (100 + i))), (0, .ref (ad 0)), (1, .int p0), (2, .int p1)]) hx hb d_E_grind_5 rfl hl (by decide) rfl (fun ls hl => ?_)
    refine lv_iload_n hx hb d_E_grind_6 rfl (lv_at hl 3 rfl) ?_
    refine lv_iconst (v := 1) hx hb d_E_grind_7 (by decide) ?_
    refine lv_icmp_lt (tgt := 17) hx hb d_E_grind_8 (by decide) (fun c_8 => ?_) (fun c_8 => ?_)
    · exact m_throwS (cls := "java/lang/IllegalArgumentException") (text := "off is not 1 .. 1000000") (names := ["java/lang/RuntimeException", "java/lang/Exception"]) (tx := mTx) hx hb hlt hown (by decide +kernel) (by decide +kernel) (hT _ k_202) (hT _ k_9) (by decide +kernel) hC (at_IllegalArgumentException hT hC.2.2.2) (good_IllegalArgumentException) hm (hl.1.trans hml.symm) d_E_grind_17 d_E_grind_20 d_E_grind_21 d_E_grind_23 d_E_grind_26 hout (Nat.le_of_ble_eq_true rfl) (Nat.le_of_ble_eq_true rfl) (Nat.le_of_ble_eq_true rfl) (Nat.le_of_ble_eq_true rfl) hlocks (⟨Or.inr (Or.inl ⟨rfl, ⟨i, hi, epi⟩, Or.inl c_8⟩), rfl⟩) (Nat.le_of_ble_eq_true rfl) (Nat.le_of_ble_eq_true rfl)
    · refine lv_iload_n hx hb d_E_grind_11 rfl (lv_at hl 3 rfl) ?_
      refine lv_ldc (v := 1000000) hx hb hown (hT _ k_201) d_E_grind_12 ?_
      refine lv_icmp_le (tgt := 27) hx hb d_E_grind_14 (by decide) (fun c_14 => ?_) (fun c_14 => ?_)
      · refine lv_aload_n hx hb d_E_grind_27 rfl (lv_at hl 0 rfl) ?_
        refine m_get (v := .int (I 7 i)) (C := R_To) (T := T_To) (N := 9) hx hb hT in_To hown hC.1 hm (100 + i) rfl ((congrFun hG (100 + i)).trans (gE_to hi ht)) rfl 7 (by decide) (hT _ k_270) (fun _ h9 => h9) rfl d_E_grind_28 ?_
        refine lv_if_eq (tgt := 44) hx hb d_E_grind_31 (by decide) (fun c_31 => ?_) (fun c_31 => ?_)
        · refine lv_aload_n hx hb d_E_grind_44 rfl (lv_at hl 0 rfl) ?_
          refine lv_iload_n hx hb d_E_grind_45 rfl (lv_at hl 3 rfl) ?_
          refine m_calli (m_runV (As := [.int p1]) (rest := []) ⟨hx, hb, hml, hown, hts⟩ (c_To_grindOrBar l D dA ad G H.size (100 + i) (10 + si i) (200 + i) (I 6 i) (I 5 i) (J 1 i) (J 2 i) (J 3 i) (I 7 i) (I 8 i) p1 ((congrFun hG (100 + i)).trans (gE_to hi ht))) (cwV 1 hts (gV k_350 k_347 k_348 k_349 k_11) rfl rfl rfl (by decide +kernel) ⟨Nat.le_of_ble_eq_true rfl, Nat.le_of_ble_eq_true rfl⟩) hm hA hC (100 + i) rfl ((congrFun hG (100 + i)).trans (gE_to hi ht)) rfl rfl rfl hl.1 rfl (Nat.le_of_ble_eq_true rfl) d_E_grind_46 ⟨Nat.le_of_ble_eq_true rfl, Nat.le_of_ble_eq_true rfl⟩) hm hA (fun r_3 ad_6 G_5 H locs w_4 hm => ?_)
          refine W.widen (k := 2) (n := 12) (by omega) (by omega) ?_
          refine vx_ret ?_
          exact m_zret (v := r_3) hx hb hr (by
            have h9 := w_4
            by_cases hq : I 5 i - p1 < I 6 i
            · rw [if_pos hq] at h9; rw [h9.1]; rfl
            · rw [if_neg hq] at h9; rw [h9.1]; rfl) hm (⟨i, hi, epi, fun h => h.elim c_8 (fun h => Int32.not_lt.mpr c_14 h), c_31, by
            have h9 := w_4
            by_cases hq : I 5 i - p1 < I 6 i
            · rw [if_pos hq] at h9 ⊢
              refine ⟨h9.1, ?_⟩
              rw [h9.2, hG, gE_utool hi ht]
              rw [up2_id, up2_i2 I _ (show 8 ≠ 7 by decide), up2_id, up2_id, up2_id]
            · rw [if_neg hq] at h9 ⊢
              refine ⟨h9.1, ?_⟩
              rw [h9.2, hG, gE_utool hi ht]
              rw [up2_i2 I _ (show 7 ≠ 5 by decide), up2_i2 I _ (show 8 ≠ 5 by decide), up2_i2 J _ (show 2 ≠ 1 by decide)]⟩) d_E_grind_49 hlocks
        · exact m_throwS (cls := "java/lang/IllegalStateException") (text := "the tool is barred") (names := ["java/lang/RuntimeException", "java/lang/Exception"]) (tx := mTx) hx hb hlt hown (by decide +kernel) (by decide +kernel) (hT _ k_218) (hT _ k_10) (by decide +kernel) hC (at_IllegalStateException hT hC.2.2.2) (good_IllegalStateException) hm (hl.1.trans hml.symm) d_E_grind_34 d_E_grind_37 d_E_grind_38 d_E_grind_40 d_E_grind_43 hout (Nat.le_of_ble_eq_true rfl) (Nat.le_of_ble_eq_true rfl) (Nat.le_of_ble_eq_true rfl) (Nat.le_of_ble_eq_true rfl) hlocks (⟨Or.inr (Or.inr ⟨rfl, ⟨i, hi, epi, c_31⟩, fun h => h.elim c_8 (fun h => Int32.not_lt.mpr c_14 h)⟩), rfl⟩) (Nat.le_of_ble_eq_true rfl) (Nat.le_of_ble_eq_true rfl)
      · exact m_throwS (cls := "java/lang/IllegalArgumentException") (text := "off is not 1 .. 1000000") (names := ["java/lang/RuntimeException", "java/lang/Exception"]) (tx := mTx) hx hb hlt hown (by decide +kernel) (by decide +kernel) (hT _ k_202) (hT _ k_9) (by decide +kernel) hC (at_IllegalArgumentException hT hC.2.2.2) (good_IllegalArgumentException) hm (hl.1.trans hml.symm) d_E_grind_17 d_E_grind_20 d_E_grind_21 d_E_grind_23 d_E_grind_26 hout (Nat.le_of_ble_eq_true rfl) (Nat.le_of_ble_eq_true rfl) (Nat.le_of_ble_eq_true rfl) (Nat.le_of_ble_eq_true rfl) hlocks (⟨Or.inr (Or.inl ⟨rfl, ⟨i, hi, epi⟩, Or.inr (Int32.not_le.mp c_14)⟩), rfl⟩) (Nat.le_of_ble_eq_true rfl) (Nat.le_of_ble_eq_true rfl)

set_option maxHeartbeats 4000000 in
set_option maxRecDepth 100000 in
theorem c_E_bring (l : Launch) (hlt : l.stackTraces = false) (D : va_G) (dA : Nat → ClassId) (ad : Nat → Nat) (G : mG) (sz : Nat) (I : Nat → Nat → Int32) (J : Nat → Nat → Int64) (F : Nat → Nat → Nat → Int32) (si : Nat → Nat) (tc oc : Nat) (G0 : mG) (hG : G = gE dA ad I J F si tc oc G0) (ht : tc ≤ 12) (hz : ∀ i, i < tc → I 8 i = 0 ∨ I 8 i = 1) (p0 : Int32) : vx_Met l y_E_bring (.code y_E_bring b_E_bring 4 (some .boolean) :: mBig) ({ frames := 7, cells := 1, slots := 6, locals := 104 }) (mPc [.ref (ad 0), .int p0] D mCl (mTys dA) mTx ad G sz) (mQi (fun (rv : Int32) (u : mU) => (∃ i, i < tc ∧ p0 = nI i ∧ rv = I 8 i ∧ u = (ad, gE dA ad (up2 I 8 i 0) J F si tc oc G0))) D mCl ad G sz) (mXC (fun (E : String) (u : mU) => (E = "java/lang/IndexOutOfBoundsException" ∧ ¬ (∃ i, i < tc ∧ p0 = nI i)) ∧ u = (ad, G)) D mCl ad G sz) 1 6 (mA ad G sz) := by
  refine vx_ofW (cc := b_E_bring) (maxL := 4) (ret := (some .boolean)) (by decide) rfl ?_
  intro p e s m args below meth c s₁ B hml hout hv
  obtain ⟨rfl, hsz, hw0, hC⟩ := hv
  have hx := B.exec
  have hb := B.bytes
  have hr := B.returns
  have hts := atoms_spec (ws := .code y_E_bring b_E_bring 4 (some .boolean) :: mBig) B.pre
  have hT : ∀ w ∈ mBig, w.before _ s = true := fun w h => hts w (List.mem_cons_of_mem _ h)
  have hown : s.vm.findClass "EdgeWear" = some m.cls := findClass_of_methodNamed B.named
  have hlocks := B.notSynchronized
  subst hsz
  have hm := mS.start hw0
  have hA : ∀ q : Nat, s.heap.size ≤ q → mA ad G s.heap.size q := fun q h => Or.inr h
  have hl := lv_entry ([.ref (ad 0), .int p0]) (n := 4) (Nat.le_of_ble_eq_true rfl)
  rw [lg_entry_eq]
  generalize (lg_sl ([.ref (ad 0), .int p0]) ++ List.replicate (4 - (lg_sl ([.ref (ad 0), .int p0])).length) Slot.unset).toArray = ls at hl ⊢
  have hl : lv_has ls 4 [(0, .ref (ad 0)), (1, .int p0)] := hl
  refine lv_aload_n hx hb d_E_bring_0 rfl (lv_at hl 0 rfl) ?_
  refine lv_iload_n hx hb d_E_bring_1 rfl (lv_at hl 1 rfl) ?_
  refine x_roq (x_runV (As := [.int p0]) (rest := []) ⟨hx, hb, hml, hown, hts⟩ (c_E_toolAt l hlt D dA ad G s.heap.size I J F si tc oc G0 hG ht p0) (cwV 1 hts (gV k_323 k_320 k_322 ks_2 k_1) rfl rfl rfl (by decide +kernel) ⟨Nat.le_of_ble_eq_true rfl, Nat.le_of_ble_eq_true rfl⟩) hm hA hC 0 rfl ((congrFun hG 0).trans gE_c0) rfl rfl rfl hl.1 rfl (Nat.le_of_ble_eq_true rfl) d_E_bring_2 ⟨Nat.le_of_ble_eq_true rfl, Nat.le_of_ble_eq_true rfl⟩) hm hA (fun E ce q9 H locs w_2 hm h7 h8 h9 => ?_) (fun r_1 H locs w_2 hm => ?_)
  · exact m_out hout hlocks hm h7 h8 h9 (by
      obtain ⟨rfl, hq⟩ := w_2
      exact ⟨⟨rfl, hq⟩, rfl⟩) (by decide) (by decide)
  · obtain ⟨i, hi, epi, er⟩ := w_2
    subst er
    rw [show va_rf (some (ad (100 + i))) = .ref (ad (100 + i)) from rfl]
    refine lv_astore_n (lv' := [(2, .ref (ad (100 + i))), (0, .ref (ad 0)), (1, .int p0)]) hx hb d_E_bring_5 rfl hl (by decide) rfl (fun ls hl => ?_)
    refine lv_aload_n hx hb d_E_bring_6 rfl (lv_at hl 0 rfl) ?_
    refine m_get (v := .int (I 8 i)) (C := R_To) (T := T_To) (N := 9) hx hb hT in_To hown hC.1 hm (100 + i) rfl ((congrFun hG (100 + i)).trans (gE_to hi ht)) rfl 8 (by decide) (hT _ k_272) (fun _ h9 => h9) rfl d_E_bring_7 ?_
    refine lv_istore_n (lv' := [(3, .int (I 8 i)), (2, .ref (ad (100 + i))), (0, .ref (ad 0)), (1, .int p0)]) hx hb d_E_bring_10 rfl hl (by decide) rfl (fun ls hl => ?_)
    refine lv_aload_n hx hb d_E_bring_11 rfl (lv_at hl 1 rfl) ?_
    refine lv_iconst (v := 0) hx hb d_E_bring_12 (by decide) ?_
    refine m_put (v := .int 0) (ty := .boolean) (C := R_To) (T := T_To) (N := 9) hx hb hT in_To t_To tok_To nm_To hown hC.1 hm (100 + i) rfl ((congrFun hG (100 + i)).trans (gE_to hi ht)) rfl 8 (by decide) (hT _ k_272) (fun _ h9 => h9) rfl (by decide +kernel) rfl rfl (Nat.le_of_ble_eq_true rfl) d_E_bring_13 (fun H locs hm => ?_)
    obtain ⟨G_3, eG_3⟩ : ∃ z : mG, z = va_up G (100 + i) (some (.inr (4, [.ref (ad (10 + si i)), .int (I 6 i), .ref (ad (200 + i)), .int (I 5 i), .long (J 1 i), .long (J 2 i), .long (J 3 i), .int (I 7 i), .int 0]))) := ⟨_, rfl⟩
    have hm : mS D mCl (mA ad G s.heap.size) s.heap ad G_3 H locs := by rw [eG_3]; exact hm
    have g_4 := (congrFun eG_3 0).trans ((va_up_ne _ _ (by omega)).trans ((congrFun hG 0).trans gE_c0))
    have g_5 := (congrFun eG_3 1).trans ((va_up_ne _ _ (by omega)).trans ((congrFun hG 1).trans gE_c1))
    have g_6 := (congrFun eG_3 2).trans ((va_up_ne _ _ (by omega)).trans ((congrFun hG 2).trans gE_c2))
    have g_7 := (congrFun eG_3 3).trans ((va_up_ne _ _ (by omega)).trans ((congrFun hG 3).trans gE_c3))
    have g_8 := (congrFun eG_3 4).trans ((va_up_ne _ _ (by omega)).trans ((congrFun hG 4).trans gE_c4))
    have g_9 := (congrFun eG_3 5).trans ((va_up_ne _ _ (by omega)).trans ((congrFun hG 5).trans gE_c5))
    have g_10 : G_3 (100 + i) = some (.inr (4, [.ref (ad (10 + si i)), .int (I 6 i), .ref (ad (200 + i)), .int (I 5 i), .long (J 1 i), .long (J 2 i), .long (J 3 i), .int (I 7 i), .int 0])) := by rw [eG_3, va_up_self]
    refine lv_iload_n hx hb d_E_bring_16 rfl (lv_at hl 0 rfl) ?_
    refine vx_ret ?_
    exact m_zret (v := I 8 i) hx hb hr (by rcases hz i hi with h | h <;> rw [h] <;> rfl) hm (⟨i, hi, epi, rfl, by rw [eG_3, hG, gE_utool hi ht]; simp only [up2_id]⟩) d_E_bring_17 hlocks
end
section
set_option maxHeartbeats 4000000 in
set_option maxRecDepth 100000 in
theorem c_E_use (l : Launch) (hlt : l.stackTraces = false) (D : va_G) (dA : Nat → ClassId) (ad : Nat → Nat) (G : mG) (sz : Nat) (I : Nat → Nat → Int32) (J : Nat → Nat → Int64) (F : Nat → Nat → Nat → Int32) (si : Nat → Nat) (tc oc : Nat) (G0 : mG) (hG : G = gE dA ad I J F si tc oc G0) (ht : tc ≤ 12) (hs : ∀ i, i < tc → si i < 4) (p0 p1 p2 p3 : Int32) : vx_Met l y_E_use (.code y_E_use b_E_use 7 (some .boolean) :: mBig) ({ frames := 7, cells := 3, slots := 18, locals := 104 }) (mPc [.ref (ad 0), .int p0, .int p1, .int p2, .int p3] D mCl (mTys dA) mTx ad G sz) (mQi (fun (rv : Int32) (u : mU) => (∃ i a b, i < tc ∧ p0 = nI i ∧ a < 4 ∧ p2 = nI a ∧ b < 4 ∧ p3 = nI b ∧ ¬ (p1 < 0 ∨ 1000000 < p1) ∧ I 7 i = 0 ∧ bv rv (¬ J 0 (si i) < eWear (J 1 i) (p1.toInt64 * (I 1 (4 * a + b)).toInt64)) ∧ u = (ad, gE dA ad I (up2 (up2 J 1 i (eWear (J 1 i) (p1.toInt64 * (I 1 (4 * a + b)).toInt64))) 2 i (J 2 i + 1)) F si tc oc G0))) D mCl ad G sz) (mXC (fun (E : String) (u : mU) => ((E = "java/lang/IndexOutOfBoundsException" ∧ ¬ ((∃ i, i < tc ∧ p0 = nI i) ∧ (∃ a, a < 4 ∧ p2 = nI a) ∧ ∃ b, b < 4 ∧ p3 = nI b)) ∨ (E = "java/lang/IllegalArgumentException" ∧ ((∃ i, i < tc ∧ p0 = nI i) ∧ (∃ a, a < 4 ∧ p2 = nI a) ∧ ∃ b, b < 4 ∧ p3 = nI b) ∧ (p1 < 0 ∨ 1000000 < p1)) ∨ (E = "java/lang/IllegalStateException" ∧ (∃ i, i < tc ∧ p0 = nI i ∧ ¬ I 7 i = 0) ∧ (∃ a, a < 4 ∧ p2 = nI a) ∧ (∃ b, b < 4 ∧ p3 = nI b) ∧ ¬ (p1 < 0 ∨ 1000000 < p1))) ∧ u = (ad, G)) D mCl ad G sz) 3 18 (mA ad G sz) := by
  refine vx_ofW (cc := b_E_use) (maxL := 7) (ret := (some .boolean)) (by decide) rfl ?_
  intro p e s m args below meth c s₁ B hml hout hv
  obtain ⟨rfl, hsz, hw0, hC⟩ := hv
  have hx := B.exec
  have hb := B.bytes
  have hr := B.returns
  have hts := atoms_spec (ws := .code y_E_use b_E_use 7 (some .boolean) :: mBig) B.pre
  have hT : ∀ w ∈ mBig, w.before _ s = true := fun w h => hts w (List.mem_cons_of_mem _ h)
  have hown : s.vm.findClass "EdgeWear" = some m.cls := findClass_of_methodNamed B.named
  have hlocks := B.notSynchronized
  subst hsz
  have hm := mS.start hw0
  have hA : ∀ q : Nat, s.heap.size ≤ q → mA ad G s.heap.size q := fun q h => Or.inr h
  have hl := lv_entry ([.ref (ad 0), .int p0, .int p1, .int p2, .int p3]) (n := 7) (Nat.le_of_ble_eq_true rfl)
  rw [lg_entry_eq]
  generalize (lg_sl ([.ref (ad 0), .int p0, .int p1, .int p2, .int p3]) ++ List.replicate (7 - (lg_sl ([.ref (ad 0), .int p0, .int p1, .int p2, .int p3])).length) Slot.unset).toArray = ls at hl ⊢
  have hl : lv_has ls 7 [(0, .ref (ad 0)), (1, .int p0), (2, .int p1), (3, .int p2), (4, .int p3)] := hl
  refine lv_aload_n hx hb d_E_use_0 rfl (lv_at hl 0 rfl) ?_
  refine lv_iload_n hx hb d_E_use_1 rfl (lv_at hl 1 rfl) ?_
  refine x_roq (x_runV (As := [.int p0]) (rest := []) ⟨hx, hb, hml, hown, hts⟩ (c_E_toolAt l hlt D dA ad G s.heap.size I J F si tc oc G0 hG ht p0) (cwV 1 hts (gV k_323 k_320 k_322 ks_2 k_1) rfl rfl rfl (by decide +kernel) ⟨Nat.le_of_ble_eq_true rfl, Nat.le_of_ble_eq_true rfl⟩) hm hA hC 0 rfl ((congrFun hG 0).trans gE_c0) rfl rfl rfl hl.1 rfl (Nat.le_of_ble_eq_true rfl) d_E_use_2 ⟨Nat.le_of_ble_eq_true rfl, Nat.le_of_ble_eq_true rfl⟩) hm hA (fun E ce q9 H locs w_2 hm h7 h8 h9 => ?_) (fun r_1 H locs w_2 hm => ?_)
  · exact m_out hout hlocks hm h7 h8 h9 (by
      obtain ⟨rfl, hq⟩ := w_2
      exact ⟨Or.inl ⟨rfl, fun h => hq h.1⟩, rfl⟩) (by decide) (by decide)
  · obtain ⟨i, hi, epi, er⟩ := w_2
    subst er
    rw [show va_rf (some (ad (100 + i))) = .ref (ad (100 + i)) from rfl]
    refine lv_astore (lv' := [(5, .ref (ad (100 + i))), (0, .ref (ad 0)), (1, .int p0), (2, .int p1), (3, .int p2), (4, .int p3)]) hx hb d_E_use_5 hl (by decide) rfl (fun ls hl => ?_)
    refine lv_iload_n hx hb d_E_use_7 rfl (lv_at hl 4 rfl) ?_
    refine lv_iload hx hb d_E_use_8 (lv_at hl 5 rfl) ?_
    refine x_roi (x_runS (As := [.int p2, .int p3]) (rest := []) ⟨hx, hb, hml, hown, hts⟩ (c_E_rateIndex l hlt D dA ad G H.size I J F si tc oc G0 hG ht p2 p3) (va_cwS 2 hts (gS k_301 k_299 k_300 k_1) rfl rfl rfl (by decide +kernel) ⟨Nat.le_of_ble_eq_true rfl, Nat.le_of_ble_eq_true rfl⟩) hm hA hC rfl hl.1 rfl (Nat.le_of_ble_eq_true rfl) d_E_use_10 ⟨Nat.le_of_ble_eq_true rfl, Nat.le_of_ble_eq_true rfl⟩) hm hA (fun E ce q9 H locs w_4 hm h7 h8 h9 => ?_) (fun r_3 H locs w_4 hm => ?_)
    · exact m_out hout hlocks hm h7 h8 h9 (by
        obtain ⟨rfl, hq⟩ := w_4
        exact ⟨Or.inl ⟨rfl, fun h => hq h.2⟩, rfl⟩) (by decide) (by decide)
    · obtain ⟨a, b, ha4, hb4, ea, eb, er⟩ := w_4
      subst er
      refine lv_istore (lv' := [(6, .int (nI (4 * a + b))), (5, .ref (ad (100 + i))), (0, .ref (ad 0)), (1, .int p0), (2, .int p1), (3, .int p2), (4, .int p3)]) hx hb d_E_use_13 hl (by decide) rfl (fun ls hl => ?_)
      refine lv_iload_n hx hb d_E_use_15 rfl (lv_at hl 4 rfl) ?_
      refine lv_if_lt (tgt := 25) hx hb d_E_use_16 (by decide) (fun c_16 => ?_) (fun c_16 => ?_)
      · exact m_throwS (cls := "java/lang/IllegalArgumentException") (text := "metres are not 0 .. 1000000") (names := ["java/lang/RuntimeException", "java/lang/Exception"]) (tx := mTx) hx hb hlt hown (by decide +kernel) (by decide +kernel) (hT _ k_202) (hT _ k_9) (by decide +kernel) hC (at_IllegalArgumentException hT hC.2.2.2) (good_IllegalArgumentException) hm (hl.1.trans hml.symm) d_E_use_25 d_E_use_28 d_E_use_29 d_E_use_31 d_E_use_34 hout (Nat.le_of_ble_eq_true rfl) (Nat.le_of_ble_eq_true rfl) (Nat.le_of_ble_eq_true rfl) (Nat.le_of_ble_eq_true rfl) hlocks (⟨Or.inr (Or.inl ⟨rfl, ⟨⟨i, hi, epi⟩, ⟨a, ha4, ea⟩, ⟨b, hb4, eb⟩⟩, Or.inl c_16⟩), rfl⟩) (Nat.le_of_ble_eq_true rfl) (Nat.le_of_ble_eq_true rfl)
      · refine lv_iload_n hx hb d_E_use_19 rfl (lv_at hl 4 rfl) ?_
        refine lv_ldc (v := 1000000) hx hb hown (hT _ k_201) d_E_use_20 ?_
        refine lv_icmp_le (tgt := 35) hx hb d_E_use_22 (by decide) (fun c_22 => ?_) (fun c_22 => ?_)
        · refine lv_aload hx hb d_E_use_35 (lv_at hl 1 rfl) ?_
          refine m_get (v := .int (I 7 i)) (C := R_To) (T := T_To) (N := 9) hx hb hT in_To hown hC.1 hm (100 + i) rfl ((congrFun hG (100 + i)).trans (gE_to hi ht)) rfl 7 (by decide) (hT _ k_270) (fun _ h9 => h9) rfl d_E_use_37 ?_
          refine lv_if_eq (tgt := 53) hx hb d_E_use_40 (by decide) (fun c_40 => ?_) (fun c_40 => ?_)
          · refine lv_aload hx hb d_E_use_53 (lv_at hl 1 rfl) ?_
            refine lv_iload_n hx hb d_E_use_55 rfl (lv_at hl 4 rfl) ?_
            refine lv_i2l hx hb d_E_use_56 rfl ?_
            refine lv_topl (fun x_5 ex_5 => ?_)
            refine lv_aload_n hx hb d_E_use_57 rfl (lv_at hl 2 rfl) ?_
            refine m_get (v := .ref (ad 1)) (C := R_E) (T := T_E) (N := 8) hx hb hT in_E hown hC.1 hm 0 rfl ((congrFun hG 0).trans gE_c0) rfl 1 (by decide) (hT _ k_88) (fun _ h9 => h9) rfl d_E_use_58 ?_
            refine lv_iload hx hb d_E_use_61 (lv_at hl 0 rfl) ?_
            refine m_iald (v := I 1 (4 * a + b)) hx hb hC.1 hm 1 rfl 0 ((congrFun hG 1).trans gE_c1) rfl (vp_in_nI (by omega) (by decide)) (by rw [nI_clamp (by omega)]) d_E_use_63 ?_
            refine lv_i2l hx hb d_E_use_64 rfl ?_
            refine lv_topl (fun x_6 ex_6 => ?_)
            refine lv_lmul hx hb d_E_use_65 ?_
            refine lv_topl (fun x_7 ex_7 => ?_)
            refine m_callv (m_runV (As := [.long x_7]) (rest := []) ⟨hx, hb, hml, hown, hts⟩ (c_To_wearBy l D dA ad G H.size (100 + i) (10 + si i) (200 + i) (I 6 i) (I 5 i) (J 1 i) (J 2 i) (J 3 i) (I 7 i) (I 8 i) x_7 ((congrFun hG (100 + i)).trans (gE_to hi ht))) (cwV 1 hts (gV k_330 k_327 k_328 k_329 k_11) rfl rfl rfl (by decide +kernel) ⟨Nat.le_of_ble_eq_true rfl, Nat.le_of_ble_eq_true rfl⟩) hm hA hC (100 + i) rfl ((congrFun hG (100 + i)).trans (gE_to hi ht)) rfl rfl rfl hl.1 rfl (Nat.le_of_ble_eq_true rfl) d_E_use_66 ⟨Nat.le_of_ble_eq_true rfl, Nat.le_of_ble_eq_true rfl⟩) hm hA (fun ad_11 G_10 H locs w_9 hm => ?_)
            have hsi := hs i hi
            obtain ⟨ea9, eG_10⟩ := Prod.mk.inj w_9
            rw [ea9] at hm
            have g_12 := (congrFun eG_10 0).trans ((va_up_ne _ _ (by omega)).trans ((congrFun hG 0).trans gE_c0))
            have g_13 := (congrFun eG_10 1).trans ((va_up_ne _ _ (by omega)).trans ((congrFun hG 1).trans gE_c1))
            have g_14 := (congrFun eG_10 2).trans ((va_up_ne _ _ (by omega)).trans ((congrFun hG 2).trans gE_c2))
            have g_15 := (congrFun eG_10 3).trans ((va_up_ne _ _ (by omega)).trans ((congrFun hG 3).trans gE_c3))
            have g_16 := (congrFun eG_10 4).trans ((va_up_ne _ _ (by omega)).trans ((congrFun hG 4).trans gE_c4))
            have g_17 := (congrFun eG_10 5).trans ((va_up_ne _ _ (by omega)).trans ((congrFun hG 5).trans gE_c5))
            have g_18 : G_10 (100 + i) = some (.inr (4, [.ref (ad (10 + si i)), .int (I 6 i), .ref (ad (200 + i)), .int (I 5 i), .long (if 1000000000000000 < (J 1 i) + x_7 then 1000000000000000 else (J 1 i) + x_7), .long (J 2 i + 1), .long (J 3 i), .int (I 7 i), .int (I 8 i)])) := by rw [eG_10, va_up_self]
            have g_19 := (congrFun eG_10 (10 + si i)).trans ((va_up_ne _ _ (by omega)).trans ((congrFun hG (10 + (si i))).trans (gE_so hsi)))
            have g_20 := (congrFun eG_10 (20 + si i)).trans ((va_up_ne _ _ (by omega)).trans ((congrFun hG (20 + (si i))).trans (gE_li hsi)))
            refine lv_aload hx hb d_E_use_69 (lv_at hl 1 rfl) ?_
            refine m_roi (m_runV (As := []) (rest := []) ⟨hx, hb, hml, hown, hts⟩ (c_To_isBlunt l D dA ad G_10 H.size (100 + i) (10 + si i) (200 + i) (I 6 i) (I 5 i) (if 1000000000000000 < (J 1 i) + x_7 then 1000000000000000 else (J 1 i) + x_7) (J 2 i + 1) (J 3 i) (I 7 i) (I 8 i) (20 + si i) (nI (si i)) (I 2 (si i)) (J 0 (si i)) (I 3 (si i)) (I 4 (si i)) (g_18) (g_19)) (cwV 0 hts (gV k_338 k_335 k_336 k_337 k_11) rfl rfl rfl (by decide +kernel) ⟨Nat.le_of_ble_eq_true rfl, Nat.le_of_ble_eq_true rfl⟩) hm hA hC (100 + i) rfl g_18 rfl rfl rfl hl.1 rfl (Nat.le_of_ble_eq_true rfl) d_E_use_71 ⟨Nat.le_of_ble_eq_true rfl, Nat.le_of_ble_eq_true rfl⟩) hm hA (fun r_21 H locs w_22 hm => ?_)
            refine lv_if_ne (tgt := 81) hx hb d_E_use_74 (by decide) (fun c_74 => ?_) (fun c_74 => ?_)
            · refine lv_iconst (v := 0) hx hb d_E_use_81 (by decide) ?_
              refine W.widen (k := 3) (n := 18) (by omega) (by omega) ?_
              refine vx_ret ?_
              exact m_zret (v := 0) hx hb hr rfl hm (⟨i, a, b, hi, epi, ha4, ea, hb4, eb, fun h => h.elim c_16 (fun h => Int32.not_lt.mpr c_22 h), c_40, by
                have hb9 := w_22
                rw [ex_7, ex_6, ex_5] at hb9
                replace hb9 : (_ : Int32) = if J 0 (si i) < eWear (J 1 i) (p1.toInt64 * (I 1 (4 * a + b)).toInt64) then 1 else 0 := hb9
                exact bv0 (fun h => c_74 (by rw [hb9, if_neg h])), by
                rw [eG_10, hG, gE_utool hi ht, up2_id, up2_id, up2_id, ex_7, ex_6, ex_5, up2_i3 J _ _ (show 3 ≠ 1 by decide) (show 3 ≠ 2 by decide)]
                rfl⟩) d_E_use_82 hlocks
            · refine lv_iconst (v := 1) hx hb d_E_use_77 (by decide) ?_
              refine lv_goto (tgt := 82) hx hb d_E_use_78 (by decide) ?_
              refine W.widen (k := 3) (n := 18) (by omega) (by omega) ?_
              refine vx_ret ?_
              exact m_zret (v := 1) hx hb hr rfl hm (⟨i, a, b, hi, epi, ha4, ea, hb4, eb, fun h => h.elim c_16 (fun h => Int32.not_lt.mpr c_22 h), c_40, by
                have hb9 := w_22
                rw [ex_7, ex_6, ex_5] at hb9
                replace hb9 : (_ : Int32) = if J 0 (si i) < eWear (J 1 i) (p1.toInt64 * (I 1 (4 * a + b)).toInt64) then 1 else 0 := hb9
                exact bv1 (fun h => by rw [if_pos h] at hb9; rw [hb9] at c_74; exact absurd c_74 (by decide)), by
                rw [eG_10, hG, gE_utool hi ht, up2_id, up2_id, up2_id, ex_7, ex_6, ex_5, up2_i3 J _ _ (show 3 ≠ 1 by decide) (show 3 ≠ 2 by decide)]
                rfl⟩) d_E_use_82 hlocks
          · exact m_throwS (cls := "java/lang/IllegalStateException") (text := "the tool is barred") (names := ["java/lang/RuntimeException", "java/lang/Exception"]) (tx := mTx) hx hb hlt hown (by decide +kernel) (by decide +kernel) (hT _ k_218) (hT _ k_10) (by decide +kernel) hC (at_IllegalStateException hT hC.2.2.2) (good_IllegalStateException) hm (hl.1.trans hml.symm) d_E_use_43 d_E_use_46 d_E_use_47 d_E_use_49 d_E_use_52 hout (Nat.le_of_ble_eq_true rfl) (Nat.le_of_ble_eq_true rfl) (Nat.le_of_ble_eq_true rfl) (Nat.le_of_ble_eq_true rfl) hlocks (⟨Or.inr (Or.inr ⟨rfl, ⟨i, hi, epi, c_40⟩, ⟨a, ha4, ea⟩, ⟨b, hb4, eb⟩, fun h => h.elim c_16 (fun h => Int32.not_lt.mpr c_22 h)⟩), rfl⟩) (Nat.le_of_ble_eq_true rfl) (Nat.le_of_ble_eq_true rfl)
        · exact m_throwS (cls := "java/lang/IllegalArgumentException") (text := "metres are not 0 .. 1000000") (names := ["java/lang/RuntimeException", "java/lang/Exception"]) (tx := mTx) hx hb hlt hown (by decide +kernel) (by decide +kernel) (hT _ k_202) (hT _ k_9) (by decide +kernel) hC (at_IllegalArgumentException hT hC.2.2.2) (good_IllegalArgumentException) hm (hl.1.trans hml.symm) d_E_use_25 d_E_use_28 d_E_use_29 d_E_use_31 d_E_use_34 hout (Nat.le_of_ble_eq_true rfl) (Nat.le_of_ble_eq_true rfl) (Nat.le_of_ble_eq_true rfl) (Nat.le_of_ble_eq_true rfl) hlocks (⟨Or.inr (Or.inl ⟨rfl, ⟨⟨i, hi, epi⟩, ⟨a, ha4, ea⟩, ⟨b, hb4, eb⟩⟩, Or.inr (Int32.not_le.mp c_22)⟩), rfl⟩) (Nat.le_of_ble_eq_true rfl) (Nat.le_of_ble_eq_true rfl)

set_option maxHeartbeats 4000000 in
set_option maxRecDepth 100000 in
theorem c_E_life (l : Launch) (hlt : l.stackTraces = false) (D : va_G) (dA : Nat → ClassId) (ad : Nat → Nat) (G : mG) (sz : Nat) (I : Nat → Nat → Int32) (J : Nat → Nat → Int64) (F : Nat → Nat → Nat → Int32) (si : Nat → Nat) (tc oc : Nat) (G0 : mG) (hG : G = gE dA ad I J F si tc oc G0) (ht : tc ≤ 12) (hL : ∀ i, i < 4 → ∃ c, c ≤ 40 ∧ I 2 i = nI c) (p0 p1 : Int32) : vx_Met l y_E_life (.code y_E_life b_E_life 4 (some .int) :: mBig) ({ frames := 7, cells := 2, slots := 12, locals := 104 }) (mPc [.ref (ad 0), .int p0, .int p1] D mCl (mTys dA) mTx ad G sz) (mQi (fun (rv : Int32) (u : mU) => (∃ i kc, i < 4 ∧ p0 = nI i ∧ ¬ (p1 < 1 ∨ 1000 < p1) ∧ I 2 i = nI kc ∧ kc < 40 ∧ rv = nI (kc + 1) ∧ u = (ad, gE dA ad (up2 I 2 i (nI (kc + 1))) J (up2 F 0 i (upd (F 0 i) kc p1)) si tc oc G0))) D mCl ad G sz) (mXC (fun (E : String) (u : mU) => ((E = "java/lang/IndexOutOfBoundsException" ∧ ¬ ∃ i, i < 4 ∧ p0 = nI i) ∨ (E = "java/lang/IllegalArgumentException" ∧ (∃ i, i < 4 ∧ p0 = nI i) ∧ (p1 < 1 ∨ 1000 < p1)) ∨ (E = "java/lang/IllegalStateException" ∧ (∃ i, i < 4 ∧ p0 = nI i ∧ I 2 i = nI 40) ∧ ¬ (p1 < 1 ∨ 1000 < p1))) ∧ u = (ad, G)) D mCl ad G sz) 2 12 (mA ad G sz) := by
  refine vx_ofW (cc := b_E_life) (maxL := 4) (ret := (some .int)) (by decide) rfl ?_
  intro p e s m args below meth c s₁ B hml hout hv
  obtain ⟨rfl, hsz, hw0, hC⟩ := hv
  have hx := B.exec
  have hb := B.bytes
  have hr := B.returns
  have hts := atoms_spec (ws := .code y_E_life b_E_life 4 (some .int) :: mBig) B.pre
  have hT : ∀ w ∈ mBig, w.before _ s = true := fun w h => hts w (List.mem_cons_of_mem _ h)
  have hown : s.vm.findClass "EdgeWear" = some m.cls := findClass_of_methodNamed B.named
  have hlocks := B.notSynchronized
  subst hsz
  have hm := mS.start hw0
  have hA : ∀ q : Nat, s.heap.size ≤ q → mA ad G s.heap.size q := fun q h => Or.inr h
  have hl := lv_entry ([.ref (ad 0), .int p0, .int p1]) (n := 4) (Nat.le_of_ble_eq_true rfl)
  rw [lg_entry_eq]
  generalize (lg_sl ([.ref (ad 0), .int p0, .int p1]) ++ List.replicate (4 - (lg_sl ([.ref (ad 0), .int p0, .int p1])).length) Slot.unset).toArray = ls at hl ⊢
  have hl : lv_has ls 4 [(0, .ref (ad 0)), (1, .int p0), (2, .int p1)] := hl
  refine lv_aload_n hx hb d_E_life_0 rfl (lv_at hl 0 rfl) ?_
  refine lv_iload_n hx hb d_E_life_1 rfl (lv_at hl 1 rfl) ?_
  refine x_roq (x_runV (As := [.int p0]) (rest := []) ⟨hx, hb, hml, hown, hts⟩ (c_E_sortAt l hlt D dA ad G s.heap.size I J F si tc oc G0 hG ht p0) (cwV 1 hts (gV k_132 k_129 k_131 ks_0 k_1) rfl rfl rfl (by decide +kernel) ⟨Nat.le_of_ble_eq_true rfl, Nat.le_of_ble_eq_true rfl⟩) hm hA hC 0 rfl ((congrFun hG 0).trans gE_c0) rfl rfl rfl hl.1 rfl (Nat.le_of_ble_eq_true rfl) d_E_life_2 ⟨Nat.le_of_ble_eq_true rfl, Nat.le_of_ble_eq_true rfl⟩) hm hA (fun E ce q9 H locs w_2 hm h7 h8 h9 => ?_) (fun r_1 H locs w_2 hm => ?_)
  · exact m_out hout hlocks hm h7 h8 h9 (by
      obtain ⟨rfl, hq⟩ := w_2
      exact ⟨Or.inl ⟨rfl, hq⟩, rfl⟩) (by decide) (by decide)
  · obtain ⟨i, hi, epi, er⟩ := w_2
    subst er
    rw [show va_rf (some (ad (10 + i))) = .ref (ad (10 + i)) from rfl]
    refine lv_astore_n (lv' := [(3, .ref (ad (10 + i))), (0, .ref (ad 0)), (1, .int p0), (2, .int p1)]) hx hb d_E_life_5 rfl hl (by decide) rfl (fun ls hl => ?_)
    obtain ⟨kc, hkc, ekc⟩ := hL i hi
    refine lv_iload_n hx hb d_E_life_6 rfl (lv_at hl 3 rfl) ?_
    refine lv_iconst (v := 1) hx hb d_E_life_7 (by decide) ?_
    refine lv_icmp_lt (tgt := 18) hx hb d_E_life_8 (by decide) (fun c_8 => ?_) (fun c_8 => ?_)
    · exact m_throwS (cls := "java/lang/IllegalArgumentException") (text := "uses are not 1 .. 1000") (names := ["java/lang/RuntimeException", "java/lang/Exception"]) (tx := mTx) hx hb hlt hown (by decide +kernel) (by decide +kernel) (hT _ k_202) (hT _ k_9) (by decide +kernel) hC (at_IllegalArgumentException hT hC.2.2.2) (good_IllegalArgumentException) hm (hl.1.trans hml.symm) d_E_life_18 d_E_life_21 d_E_life_22 d_E_life_24 d_E_life_27 hout (Nat.le_of_ble_eq_true rfl) (Nat.le_of_ble_eq_true rfl) (Nat.le_of_ble_eq_true rfl) (Nat.le_of_ble_eq_true rfl) hlocks (⟨Or.inr (Or.inl ⟨rfl, ⟨i, hi, epi⟩, Or.inl c_8⟩), rfl⟩) (Nat.le_of_ble_eq_true rfl) (Nat.le_of_ble_eq_true rfl)
    · refine lv_iload_n hx hb d_E_life_11 rfl (lv_at hl 3 rfl) ?_
      refine lv_sipush (v := 1000) hx hb d_E_life_12 (by decide) ?_
      refine lv_icmp_le (tgt := 28) hx hb d_E_life_15 (by decide) (fun c_15 => ?_) (fun c_15 => ?_)
      · refine lv_aload_n hx hb d_E_life_28 rfl (lv_at hl 0 rfl) ?_
        refine m_get (v := .int (I 2 i)) (C := R_So) (T := T_So) (N := 6) hx hb hT in_So hown hC.1 hm (10 + i) rfl ((congrFun hG (10 + i)).trans (gE_so hi)) rfl 2 (by decide) (hT _ k_38) (fun _ h9 => h9) rfl d_E_life_29 ?_
        refine lv_aload_n hx hb d_E_life_32 rfl (lv_at hl 0 rfl) ?_
        refine m_get (v := .ref (ad (20 + i))) (C := R_So) (T := T_So) (N := 6) hx hb hT in_So hown hC.1 hm (10 + i) rfl ((congrFun hG (10 + i)).trans (gE_so hi)) rfl 1 (by decide) (hT _ k_36) (fun _ h9 => h9) rfl d_E_life_33 ?_
        refine m_alen (v := 40) hx hb hC.1 hm (20 + i) rfl 0 ((congrFun hG (20 + i)).trans (gE_li hi)) rfl rfl d_E_life_36 ?_
        refine lv_icmp_lt (tgt := 50) hx hb d_E_life_37 (by decide) (fun c_37 => ?_) (fun c_37 => ?_)
        · have hk40 : kc < 40 := by
            rw [ekc] at c_37
            exact (nI_ltI (b := 40) (by omega) (by decide)).mp c_37
          refine lv_aload_n hx hb d_E_life_50 rfl (lv_at hl 0 rfl) ?_
          refine m_get (v := .ref (ad (20 + i))) (C := R_So) (T := T_So) (N := 6) hx hb hT in_So hown hC.1 hm (10 + i) rfl ((congrFun hG (10 + i)).trans (gE_so hi)) rfl 1 (by decide) (hT _ k_36) (fun _ h9 => h9) rfl d_E_life_51 ?_
          refine lv_aload_n hx hb d_E_life_54 rfl (lv_at hl 0 rfl) ?_
          refine m_get (v := .int (I 2 i)) (C := R_So) (T := T_So) (N := 6) hx hb hT in_So hown hC.1 hm (10 + i) rfl ((congrFun hG (10 + i)).trans (gE_so hi)) rfl 2 (by decide) (hT _ k_38) (fun _ h9 => h9) rfl d_E_life_55 ?_
          refine lv_iload_n hx hb d_E_life_58 rfl (lv_at hl 3 rfl) ?_
          refine m_iast hx hb hC.1 hm (20 + i) rfl 0 ((congrFun hG (20 + i)).trans (gE_li hi)) rfl (by rw [ekc]; exact vp_in_nI (by omega) (by decide)) d_E_life_59 (fun H locs hm => ?_)
          rw [show (I 2 i).toNatClampNeg = kc by rw [ekc, nI_clamp (by omega)]] at hm
          obtain ⟨G_3, eG_3⟩ : ∃ z : mG, z = va_up G (20 + i) (some (.inl ((dA 0), 40, .inl (upd (F 0 i) kc p1)))) := ⟨_, rfl⟩
          have hm : mS D mCl (mA ad G s.heap.size) s.heap ad G_3 H locs := by rw [eG_3]; exact hm
          have g_4 := (congrFun eG_3 0).trans ((va_up_ne _ _ (by omega)).trans ((congrFun hG 0).trans gE_c0))
          have g_5 := (congrFun eG_3 1).trans ((va_up_ne _ _ (by omega)).trans ((congrFun hG 1).trans gE_c1))
          have g_6 := (congrFun eG_3 2).trans ((va_up_ne _ _ (by omega)).trans ((congrFun hG 2).trans gE_c2))
          have g_7 := (congrFun eG_3 3).trans ((va_up_ne _ _ (by omega)).trans ((congrFun hG 3).trans gE_c3))
          have g_8 := (congrFun eG_3 4).trans ((va_up_ne _ _ (by omega)).trans ((congrFun hG 4).trans gE_c4))
          have g_9 := (congrFun eG_3 5).trans ((va_up_ne _ _ (by omega)).trans ((congrFun hG 5).trans gE_c5))
          have g_10 := (congrFun eG_3 (10 + i)).trans ((va_up_ne _ _ (by omega)).trans ((congrFun hG (10 + i)).trans (gE_so hi)))
          have g_11 : G_3 (20 + i) = some (.inl ((dA 0), 40, .inl (upd (F 0 i) kc p1))) := by rw [eG_3, va_up_self]
          refine lv_aload_n hx hb d_E_life_60 rfl (lv_at hl 0 rfl) ?_
          refine lv_dup hx hb d_E_life_61 rfl ?_
          refine m_get (v := .int (I 2 i)) (C := R_So) (T := T_So) (N := 6) hx hb hT in_So hown hC.1 hm (10 + i) rfl g_10 rfl 2 (by decide) (hT _ k_38) (fun _ h9 => h9) rfl d_E_life_62 ?_
          refine lv_iconst (v := 1) hx hb d_E_life_65 (by decide) ?_
          refine lv_iadd hx hb d_E_life_66 ?_
          refine lv_topi (fun x_12 ex_12 => ?_)
          refine m_put (v := .int x_12) (ty := .int) (C := R_So) (T := T_So) (N := 6) hx hb hT in_So t_So tok_So nm_So hown hC.1 hm (10 + i) rfl g_10 rfl 2 (by decide) (hT _ k_38) (fun _ h9 => h9) rfl (by decide +kernel) rfl rfl (Nat.le_of_ble_eq_true rfl) d_E_life_67 (fun H locs hm => ?_)
          obtain ⟨G_13, eG_13⟩ : ∃ z : mG, z = va_up G_3 (10 + i) (some (.inr (3, [.int (nI i), .ref (ad (20 + i)), .int x_12, .long (J 0 i), .int (I 3 i), .int (I 4 i)]))) := ⟨_, rfl⟩
          have hm : mS D mCl (mA ad G s.heap.size) s.heap ad G_13 H locs := by rw [eG_13]; exact hm
          have g_14 := (congrFun eG_13 0).trans ((va_up_ne _ _ (by omega)).trans g_4)
          have g_15 := (congrFun eG_13 1).trans ((va_up_ne _ _ (by omega)).trans g_5)
          have g_16 := (congrFun eG_13 2).trans ((va_up_ne _ _ (by omega)).trans g_6)
          have g_17 := (congrFun eG_13 3).trans ((va_up_ne _ _ (by omega)).trans g_7)
          have g_18 := (congrFun eG_13 4).trans ((va_up_ne _ _ (by omega)).trans g_8)
          have g_19 := (congrFun eG_13 5).trans ((va_up_ne _ _ (by omega)).trans g_9)
          have g_20 : G_13 (10 + i) = some (.inr (3, [.int (nI i), .ref (ad (20 + i)), .int x_12, .long (J 0 i), .int (I 3 i), .int (I 4 i)])) := by rw [eG_13, va_up_self]
          have g_21 := (congrFun eG_13 (20 + i)).trans ((va_up_ne _ _ (by omega)).trans g_11)
          refine lv_aload_n hx hb d_E_life_70 rfl (lv_at hl 0 rfl) ?_
          refine m_get (v := .int x_12) (C := R_So) (T := T_So) (N := 6) hx hb hT in_So hown hC.1 hm (10 + i) rfl g_20 rfl 2 (by decide) (hT _ k_38) (fun _ h9 => h9) rfl d_E_life_71 ?_
          refine W.widen (k := 2) (n := 12) (by omega) (by omega) ?_
          refine vx_ret ?_
          exact m_iret (v := x_12) hx hb hr hm (⟨i, kc, hi, epi, fun h => h.elim c_8 (fun h => Int32.not_lt.mpr c_15 h), ekc, hk40, by rw [ex_12, ekc, nI_1], by
            rw [eG_13, eG_3, hG, gE_ulife hi, gE_usort hi, up2_i2 I _ (show 3 ≠ 2 by decide), up2_i2 I _ (show 4 ≠ 2 by decide), up2_id, ex_12, ekc, nI_1]⟩) d_E_life_74 hlocks
        · exact m_throwS (cls := "java/lang/IllegalStateException") (text := "there are 40 lives") (names := ["java/lang/RuntimeException", "java/lang/Exception"]) (tx := mTx) hx hb hlt hown (by decide +kernel) (by decide +kernel) (hT _ k_218) (hT _ k_10) (by decide +kernel) hC (at_IllegalStateException hT hC.2.2.2) (good_IllegalStateException) hm (hl.1.trans hml.symm) d_E_life_40 d_E_life_43 d_E_life_44 d_E_life_46 d_E_life_49 hout (Nat.le_of_ble_eq_true rfl) (Nat.le_of_ble_eq_true rfl) (Nat.le_of_ble_eq_true rfl) (Nat.le_of_ble_eq_true rfl) hlocks (⟨Or.inr (Or.inr ⟨rfl, ⟨i, hi, epi, by
            rw [ekc] at c_37
            have h9 := (nI_leI (a := 40) (by decide) (by omega)).mp (Int32.not_lt.mp c_37)
            rw [ekc, show kc = 40 by omega]⟩, fun h => h.elim c_8 (fun h => Int32.not_lt.mpr c_15 h)⟩), rfl⟩) (Nat.le_of_ble_eq_true rfl) (Nat.le_of_ble_eq_true rfl)
      · exact m_throwS (cls := "java/lang/IllegalArgumentException") (text := "uses are not 1 .. 1000") (names := ["java/lang/RuntimeException", "java/lang/Exception"]) (tx := mTx) hx hb hlt hown (by decide +kernel) (by decide +kernel) (hT _ k_202) (hT _ k_9) (by decide +kernel) hC (at_IllegalArgumentException hT hC.2.2.2) (good_IllegalArgumentException) hm (hl.1.trans hml.symm) d_E_life_18 d_E_life_21 d_E_life_22 d_E_life_24 d_E_life_27 hout (Nat.le_of_ble_eq_true rfl) (Nat.le_of_ble_eq_true rfl) (Nat.le_of_ble_eq_true rfl) (Nat.le_of_ble_eq_true rfl) hlocks (⟨Or.inr (Or.inl ⟨rfl, ⟨i, hi, epi⟩, Or.inr (Int32.not_le.mp c_15)⟩), rfl⟩) (Nat.le_of_ble_eq_true rfl) (Nat.le_of_ble_eq_true rfl)

set_option maxHeartbeats 4000000 in
set_option maxRecDepth 100000 in
theorem c_E_cost (l : Launch) (hlt : l.stackTraces = false) (D : va_G) (dA : Nat → ClassId) (ad : Nat → Nat) (G : mG) (sz : Nat) (I : Nat → Nat → Int32) (J : Nat → Nat → Int64) (F : Nat → Nat → Nat → Int32) (si : Nat → Nat) (tc oc : Nat) (G0 : mG) (hG : G = gE dA ad I J F si tc oc G0) (ht : tc ≤ 12) (p0 p1 p2 : Int32) : vx_Met l y_E_cost (.code y_E_cost b_E_cost 5 none :: mBig) ({ frames := 7, cells := 2, slots := 12, locals := 104 }) (mPc [.ref (ad 0), .int p0, .int p1, .int p2] D mCl (mTys dA) mTx ad G sz) (mQv (fun (u : mU) => (∃ i, i < 4 ∧ p0 = nI i ∧ ¬ (p1 < 0 ∨ 1000000 < p1 ∨ p2 < 0 ∨ 1000000 < p2) ∧ u = (ad, gE dA ad (up2 (up2 I 3 i p1) 4 i p2) J F si tc oc G0))) D mCl ad G sz) (mXC (fun (E : String) (u : mU) => ((E = "java/lang/IndexOutOfBoundsException" ∧ ¬ ∃ i, i < 4 ∧ p0 = nI i) ∨ (E = "java/lang/IllegalArgumentException" ∧ (∃ i, i < 4 ∧ p0 = nI i) ∧ (p1 < 0 ∨ 1000000 < p1 ∨ p2 < 0 ∨ 1000000 < p2))) ∧ u = (ad, G)) D mCl ad G sz) 2 12 (mA ad G sz) := by
  refine vx_ofW (cc := b_E_cost) (maxL := 5) (ret := none) (by decide) rfl ?_
  intro p e s m args below meth c s₁ B hml hout hv
  obtain ⟨rfl, hsz, hw0, hC⟩ := hv
  have hx := B.exec
  have hb := B.bytes
  have hr := B.returns
  have hts := atoms_spec (ws := .code y_E_cost b_E_cost 5 none :: mBig) B.pre
  have hT : ∀ w ∈ mBig, w.before _ s = true := fun w h => hts w (List.mem_cons_of_mem _ h)
  have hown : s.vm.findClass "EdgeWear" = some m.cls := findClass_of_methodNamed B.named
  have hlocks := B.notSynchronized
  subst hsz
  have hm := mS.start hw0
  have hA : ∀ q : Nat, s.heap.size ≤ q → mA ad G s.heap.size q := fun q h => Or.inr h
  have hl := lv_entry ([.ref (ad 0), .int p0, .int p1, .int p2]) (n := 5) (Nat.le_of_ble_eq_true rfl)
  rw [lg_entry_eq]
  generalize (lg_sl ([.ref (ad 0), .int p0, .int p1, .int p2]) ++ List.replicate (5 - (lg_sl ([.ref (ad 0), .int p0, .int p1, .int p2])).length) Slot.unset).toArray = ls at hl ⊢
  have hl : lv_has ls 5 [(0, .ref (ad 0)), (1, .int p0), (2, .int p1), (3, .int p2)] := hl
  refine lv_aload_n hx hb d_E_cost_0 rfl (lv_at hl 0 rfl) ?_
  refine lv_iload_n hx hb d_E_cost_1 rfl (lv_at hl 1 rfl) ?_
  refine x_roq (x_runV (As := [.int p0]) (rest := []) ⟨hx, hb, hml, hown, hts⟩ (c_E_sortAt l hlt D dA ad G s.heap.size I J F si tc oc G0 hG ht p0) (cwV 1 hts (gV k_132 k_129 k_131 ks_0 k_1) rfl rfl rfl (by decide +kernel) ⟨Nat.le_of_ble_eq_true rfl, Nat.le_of_ble_eq_true rfl⟩) hm hA hC 0 rfl ((congrFun hG 0).trans gE_c0) rfl rfl rfl hl.1 rfl (Nat.le_of_ble_eq_true rfl) d_E_cost_2 ⟨Nat.le_of_ble_eq_true rfl, Nat.le_of_ble_eq_true rfl⟩) hm hA (fun E ce q9 H locs w_2 hm h7 h8 h9 => ?_) (fun r_1 H locs w_2 hm => ?_)
  · exact m_out hout hlocks hm h7 h8 h9 (by
      obtain ⟨rfl, hq⟩ := w_2
      exact ⟨Or.inl ⟨rfl, hq⟩, rfl⟩) (by decide) (by decide)
  · obtain ⟨i, hi, epi, er⟩ := w_2
    subst er
    rw [show va_rf (some (ad (10 + i))) = .ref (ad (10 + i)) from rfl]
    refine lv_astore (lv' := [(4, .ref (ad (10 + i))), (0, .ref (ad 0)), (1, .int p0), (2, .int p1), (3, .int p2)]) hx hb d_E_cost_5 hl (by decide) rfl (fun ls hl => ?_)
    refine lv_iload_n hx hb d_E_cost_7 rfl (lv_at hl 3 rfl) ?_
    refine lv_if_lt (tgt := 27) hx hb d_E_cost_8 (by decide) (fun c_8 => ?_) (fun c_8 => ?_)
    · exact m_throwS (cls := "java/lang/IllegalArgumentException") (text := "a cost is not 0 .. 1000000") (names := ["java/lang/RuntimeException", "java/lang/Exception"]) (tx := mTx) hx hb hlt hown (by decide +kernel) (by decide +kernel) (hT _ k_202) (hT _ k_9) (by decide +kernel) hC (at_IllegalArgumentException hT hC.2.2.2) (good_IllegalArgumentException) hm (hl.1.trans hml.symm) d_E_cost_27 d_E_cost_30 d_E_cost_31 d_E_cost_33 d_E_cost_36 hout (Nat.le_of_ble_eq_true rfl) (Nat.le_of_ble_eq_true rfl) (Nat.le_of_ble_eq_true rfl) (Nat.le_of_ble_eq_true rfl) hlocks (⟨Or.inr ⟨rfl, ⟨i, hi, epi⟩, Or.inl c_8⟩, rfl⟩) (Nat.le_of_ble_eq_true rfl) (Nat.le_of_ble_eq_true rfl)
    · refine lv_iload_n hx hb d_E_cost_11 rfl (lv_at hl 3 rfl) ?_
      refine lv_ldc (v := 1000000) hx hb hown (hT _ k_201) d_E_cost_12 ?_
      refine lv_icmp_gt (tgt := 27) hx hb d_E_cost_14 (by decide) (fun c_14 => ?_) (fun c_14 => ?_)
      · exact m_throwS (cls := "java/lang/IllegalArgumentException") (text := "a cost is not 0 .. 1000000") (names := ["java/lang/RuntimeException", "java/lang/Exception"]) (tx := mTx) hx hb hlt hown (by decide +kernel) (by decide +kernel) (hT _ k_202) (hT _ k_9) (by decide +kernel) hC (at_IllegalArgumentException hT hC.2.2.2) (good_IllegalArgumentException) hm (hl.1.trans hml.symm) d_E_cost_27 d_E_cost_30 d_E_cost_31 d_E_cost_33 d_E_cost_36 hout (Nat.le_of_ble_eq_true rfl) (Nat.le_of_ble_eq_true rfl) (Nat.le_of_ble_eq_true rfl) (Nat.le_of_ble_eq_true rfl) hlocks (⟨Or.inr ⟨rfl, ⟨i, hi, epi⟩, Or.inr (Or.inl c_14)⟩, rfl⟩) (Nat.le_of_ble_eq_true rfl) (Nat.le_of_ble_eq_true rfl)
      · refine lv_iload_n hx hb d_E_cost_17 rfl (lv_at hl 4 rfl) ?_
        refine lv_if_lt (tgt := 27) hx hb d_E_cost_18 (by decide) (fun c_18 => ?_) (fun c_18 => ?_)
        · exact m_throwS (cls := "java/lang/IllegalArgumentException") (text := "a cost is not 0 .. 1000000") (names := ["java/lang/RuntimeException", "java/lang/Exception"]) (tx := mTx) hx hb hlt hown (by decide +kernel) (by decide +kernel) (hT _ k_202) (hT _ k_9) (by decide +kernel) hC (at_IllegalArgumentException hT hC.2.2.2) (good_IllegalArgumentException) hm (hl.1.trans hml.symm) d_E_cost_27 d_E_cost_30 d_E_cost_31 d_E_cost_33 d_E_cost_36 hout (Nat.le_of_ble_eq_true rfl) (Nat.le_of_ble_eq_true rfl) (Nat.le_of_ble_eq_true rfl) (Nat.le_of_ble_eq_true rfl) hlocks (⟨Or.inr ⟨rfl, ⟨i, hi, epi⟩, Or.inr (Or.inr (Or.inl c_18))⟩, rfl⟩) (Nat.le_of_ble_eq_true rfl) (Nat.le_of_ble_eq_true rfl)
        · refine lv_iload_n hx hb d_E_cost_21 rfl (lv_at hl 4 rfl) ?_
          refine lv_ldc (v := 1000000) hx hb hown (hT _ k_201) d_E_cost_22 ?_
          refine lv_icmp_le (tgt := 37) hx hb d_E_cost_24 (by decide) (fun c_24 => ?_) (fun c_24 => ?_)
          · refine lv_aload hx hb d_E_cost_37 (lv_at hl 0 rfl) ?_
            refine lv_iload_n hx hb d_E_cost_39 rfl (lv_at hl 3 rfl) ?_
            refine m_put (v := .int p1) (ty := .int) (C := R_So) (T := T_So) (N := 6) hx hb hT in_So t_So tok_So nm_So hown hC.1 hm (10 + i) rfl ((congrFun hG (10 + i)).trans (gE_so hi)) rfl 4 (by decide) (hT _ k_43) (fun _ h9 => h9) rfl (by decide +kernel) rfl rfl (Nat.le_of_ble_eq_true rfl) d_E_cost_40 (fun H locs hm => ?_)
            obtain ⟨G_3, eG_3⟩ : ∃ z : mG, z = va_up G (10 + i) (some (.inr (3, [.int (nI i), .ref (ad (20 + i)), .int (I 2 i), .long (J 0 i), .int p1, .int (I 4 i)]))) := ⟨_, rfl⟩
            have hm : mS D mCl (mA ad G s.heap.size) s.heap ad G_3 H locs := by rw [eG_3]; exact hm
            have g_4 := (congrFun eG_3 0).trans ((va_up_ne _ _ (by omega)).trans ((congrFun hG 0).trans gE_c0))
            have g_5 := (congrFun eG_3 1).trans ((va_up_ne _ _ (by omega)).trans ((congrFun hG 1).trans gE_c1))
            have g_6 := (congrFun eG_3 2).trans ((va_up_ne _ _ (by omega)).trans ((congrFun hG 2).trans gE_c2))
            have g_7 := (congrFun eG_3 3).trans ((va_up_ne _ _ (by omega)).trans ((congrFun hG 3).trans gE_c3))
            have g_8 := (congrFun eG_3 4).trans ((va_up_ne _ _ (by omega)).trans ((congrFun hG 4).trans gE_c4))
            have g_9 := (congrFun eG_3 5).trans ((va_up_ne _ _ (by omega)).trans ((congrFun hG 5).trans gE_c5))
            have g_10 : G_3 (10 + i) = some (.inr (3, [.int (nI i), .ref (ad (20 + i)), .int (I 2 i), .long (J 0 i), .int p1, .int (I 4 i)])) := by rw [eG_3, va_up_self]
            have g_11 := (congrFun eG_3 (20 + i)).trans ((va_up_ne _ _ (by omega)).trans ((congrFun hG (20 + i)).trans (gE_li hi)))
            refine lv_aload hx hb d_E_cost_43 (lv_at hl 0 rfl) ?_
            refine lv_iload_n hx hb d_E_cost_45 rfl (lv_at hl 4 rfl) ?_
            refine m_put (v := .int p2) (ty := .int) (C := R_So) (T := T_So) (N := 6) hx hb hT in_So t_So tok_So nm_So hown hC.1 hm (10 + i) rfl g_10 rfl 5 (by decide) (hT _ k_45) (fun _ h9 => h9) rfl (by decide +kernel) rfl rfl (Nat.le_of_ble_eq_true rfl) d_E_cost_46 (fun H locs hm => ?_)
            obtain ⟨G_12, eG_12⟩ : ∃ z : mG, z = va_up G_3 (10 + i) (some (.inr (3, [.int (nI i), .ref (ad (20 + i)), .int (I 2 i), .long (J 0 i), .int p1, .int p2]))) := ⟨_, rfl⟩
            have hm : mS D mCl (mA ad G s.heap.size) s.heap ad G_12 H locs := by rw [eG_12]; exact hm
            have g_13 := (congrFun eG_12 0).trans ((va_up_ne _ _ (by omega)).trans g_4)
            have g_14 := (congrFun eG_12 1).trans ((va_up_ne _ _ (by omega)).trans g_5)
            have g_15 := (congrFun eG_12 2).trans ((va_up_ne _ _ (by omega)).trans g_6)
            have g_16 := (congrFun eG_12 3).trans ((va_up_ne _ _ (by omega)).trans g_7)
            have g_17 := (congrFun eG_12 4).trans ((va_up_ne _ _ (by omega)).trans g_8)
            have g_18 := (congrFun eG_12 5).trans ((va_up_ne _ _ (by omega)).trans g_9)
            have g_19 : G_12 (10 + i) = some (.inr (3, [.int (nI i), .ref (ad (20 + i)), .int (I 2 i), .long (J 0 i), .int p1, .int p2])) := by rw [eG_12, va_up_self]
            have g_20 := (congrFun eG_12 (20 + i)).trans ((va_up_ne _ _ (by omega)).trans g_11)
            refine W.widen (k := 2) (n := 12) (by omega) (by omega) ?_
            refine vx_ret ?_
            exact m_vret hx hb hr hm (⟨i, hi, epi, fun h => h.elim c_8 (fun h => h.elim c_14 (fun h => h.elim c_18 (fun h => Int32.not_lt.mpr c_24 h))), by rw [eG_12, eG_3, bx_uu, hG, gE_usort hi, up2_id, up2_id]⟩) d_E_cost_49 hlocks
          · exact m_throwS (cls := "java/lang/IllegalArgumentException") (text := "a cost is not 0 .. 1000000") (names := ["java/lang/RuntimeException", "java/lang/Exception"]) (tx := mTx) hx hb hlt hown (by decide +kernel) (by decide +kernel) (hT _ k_202) (hT _ k_9) (by decide +kernel) hC (at_IllegalArgumentException hT hC.2.2.2) (good_IllegalArgumentException) hm (hl.1.trans hml.symm) d_E_cost_27 d_E_cost_30 d_E_cost_31 d_E_cost_33 d_E_cost_36 hout (Nat.le_of_ble_eq_true rfl) (Nat.le_of_ble_eq_true rfl) (Nat.le_of_ble_eq_true rfl) (Nat.le_of_ble_eq_true rfl) hlocks (⟨Or.inr ⟨rfl, ⟨i, hi, epi⟩, Or.inr (Or.inr (Or.inr (Int32.not_le.mp c_24)))⟩, rfl⟩) (Nat.le_of_ble_eq_true rfl) (Nat.le_of_ble_eq_true rfl)

set_option maxHeartbeats 4000000 in
set_option maxRecDepth 100000 in
theorem c_E_rules (l : Launch) (hlt : l.stackTraces = false) (D : va_G) (dA : Nat → ClassId) (ad : Nat → Nat) (G : mG) (sz : Nat) (I : Nat → Nat → Int32) (J : Nat → Nat → Int64) (F : Nat → Nat → Nat → Int32) (si : Nat → Nat) (tc oc : Nat) (G0 : mG) (hG : G = gE dA ad I J F si tc oc G0) (ht : tc ≤ 12) (p0 p1 p2 p3 : Int32) : vx_Met l y_E_rules (.code y_E_rules b_E_rules 5 none :: mBig) ({ frames := 6, cells := 1, slots := 6, locals := 82 }) (mPc [.ref (ad 0), .int p0, .int p1, .int p2, .int p3] D mCl (mTys dA) mTx ad G sz) (mQv (fun (u : mU) => (¬ (p0 < 0 ∨ 1000000 < p0 ∨ p2 < 0 ∨ 1000000 < p2 ∨ p3 < 0 ∨ 1000000 < p3 ∨ p1 < 2 ∨ 12 < p1) ∧ u = (ad, gE dA ad (up2 (up2 (up2 (up2 I 0 1 p0) 0 2 p1) 0 3 p2) 0 4 p3) J F si tc oc G0))) D mCl ad G sz) (mXC (fun (E : String) (u : mU) => (E = "java/lang/IllegalArgumentException" ∧ (p0 < 0 ∨ 1000000 < p0 ∨ p2 < 0 ∨ 1000000 < p2 ∨ p3 < 0 ∨ 1000000 < p3 ∨ p1 < 2 ∨ 12 < p1)) ∧ u = (ad, G)) D mCl ad G sz) 1 6 (mA ad G sz) := by
  refine vx_ofW (cc := b_E_rules) (maxL := 5) (ret := none) (by decide) rfl ?_
  intro p e s m args below meth c s₁ B hml hout hv
  obtain ⟨rfl, hsz, hw0, hC⟩ := hv
  have hx := B.exec
  have hb := B.bytes
  have hr := B.returns
  have hts := atoms_spec (ws := .code y_E_rules b_E_rules 5 none :: mBig) B.pre
  have hT : ∀ w ∈ mBig, w.before _ s = true := fun w h => hts w (List.mem_cons_of_mem _ h)
  have hown : s.vm.findClass "EdgeWear" = some m.cls := findClass_of_methodNamed B.named
  have hlocks := B.notSynchronized
  subst hsz
  have hm := mS.start hw0
  have hA : ∀ q : Nat, s.heap.size ≤ q → mA ad G s.heap.size q := fun q h => Or.inr h
  have hl := lv_entry ([.ref (ad 0), .int p0, .int p1, .int p2, .int p3]) (n := 5) (Nat.le_of_ble_eq_true rfl)
  rw [lg_entry_eq]
  generalize (lg_sl ([.ref (ad 0), .int p0, .int p1, .int p2, .int p3]) ++ List.replicate (5 - (lg_sl ([.ref (ad 0), .int p0, .int p1, .int p2, .int p3])).length) Slot.unset).toArray = ls at hl ⊢
  have hl : lv_has ls 5 [(0, .ref (ad 0)), (1, .int p0), (2, .int p1), (3, .int p2), (4, .int p3)] := hl
  refine lv_iload_n hx hb d_E_rules_0 rfl (lv_at hl 1 rfl) ?_
  refine lv_if_lt (tgt := 32) hx hb d_E_rules_1 (by decide) (fun c_1 => ?_) (fun c_1 => ?_)
  · exact m_throwS (cls := "java/lang/IllegalArgumentException") (text := "high, middle or jump is not 0 .. 1000000") (names := ["java/lang/RuntimeException", "java/lang/Exception"]) (tx := mTx) hx hb hlt hown (by decide +kernel) (by decide +kernel) (hT _ k_202) (hT _ k_9) (by decide +kernel) hC (at_IllegalArgumentException hT hC.2.2.2) (good_IllegalArgumentException) hm (hl.1.trans hml.symm) d_E_rules_32 d_E_rules_35 d_E_rules_36 d_E_rules_38 d_E_rules_41 hout (Nat.le_of_ble_eq_true rfl) (Nat.le_of_ble_eq_true rfl) (Nat.le_of_ble_eq_true rfl) (Nat.le_of_ble_eq_true rfl) hlocks (⟨⟨rfl, Or.inl (c_1)⟩, rfl⟩) (Nat.le_of_ble_eq_true rfl) (Nat.le_of_ble_eq_true rfl)
  · refine lv_iload_n hx hb d_E_rules_4 rfl (lv_at hl 1 rfl) ?_
    refine lv_ldc (v := 1000000) hx hb hown (hT _ k_201) d_E_rules_5 ?_
    refine lv_icmp_gt (tgt := 32) hx hb d_E_rules_7 (by decide) (fun c_7 => ?_) (fun c_7 => ?_)
    · exact m_throwS (cls := "java/lang/IllegalArgumentException") (text := "high, middle or jump is not 0 .. 1000000") (names := ["java/lang/RuntimeException", "java/lang/Exception"]) (tx := mTx) hx hb hlt hown (by decide +kernel) (by decide +kernel) (hT _ k_202) (hT _ k_9) (by decide +kernel) hC (at_IllegalArgumentException hT hC.2.2.2) (good_IllegalArgumentException) hm (hl.1.trans hml.symm) d_E_rules_32 d_E_rules_35 d_E_rules_36 d_E_rules_38 d_E_rules_41 hout (Nat.le_of_ble_eq_true rfl) (Nat.le_of_ble_eq_true rfl) (Nat.le_of_ble_eq_true rfl) (Nat.le_of_ble_eq_true rfl) hlocks (⟨⟨rfl, Or.inr (Or.inl (c_7))⟩, rfl⟩) (Nat.le_of_ble_eq_true rfl) (Nat.le_of_ble_eq_true rfl)
    · refine lv_iload_n hx hb d_E_rules_10 rfl (lv_at hl 3 rfl) ?_
      refine lv_if_lt (tgt := 32) hx hb d_E_rules_11 (by decide) (fun c_11 => ?_) (fun c_11 => ?_)
      · exact m_throwS (cls := "java/lang/IllegalArgumentException") (text := "high, middle or jump is not 0 .. 1000000") (names := ["java/lang/RuntimeException", "java/lang/Exception"]) (tx := mTx) hx hb hlt hown (by decide +kernel) (by decide +kernel) (hT _ k_202) (hT _ k_9) (by decide +kernel) hC (at_IllegalArgumentException hT hC.2.2.2) (good_IllegalArgumentException) hm (hl.1.trans hml.symm) d_E_rules_32 d_E_rules_35 d_E_rules_36 d_E_rules_38 d_E_rules_41 hout (Nat.le_of_ble_eq_true rfl) (Nat.le_of_ble_eq_true rfl) (Nat.le_of_ble_eq_true rfl) (Nat.le_of_ble_eq_true rfl) hlocks (⟨⟨rfl, Or.inr (Or.inr (Or.inl (c_11)))⟩, rfl⟩) (Nat.le_of_ble_eq_true rfl) (Nat.le_of_ble_eq_true rfl)
      · refine lv_iload_n hx hb d_E_rules_14 rfl (lv_at hl 3 rfl) ?_
        refine lv_ldc (v := 1000000) hx hb hown (hT _ k_201) d_E_rules_15 ?_
        refine lv_icmp_gt (tgt := 32) hx hb d_E_rules_17 (by decide) (fun c_17 => ?_) (fun c_17 => ?_)
        · exact m_throwS (cls := "java/lang/IllegalArgumentException") (text := "high, middle or jump is not 0 .. 1000000") (names := ["java/lang/RuntimeException", "java/lang/Exception"]) (tx := mTx) hx hb hlt hown (by decide +kernel) (by decide +kernel) (hT _ k_202) (hT _ k_9) (by decide +kernel) hC (at_IllegalArgumentException hT hC.2.2.2) (good_IllegalArgumentException) hm (hl.1.trans hml.symm) d_E_rules_32 d_E_rules_35 d_E_rules_36 d_E_rules_38 d_E_rules_41 hout (Nat.le_of_ble_eq_true rfl) (Nat.le_of_ble_eq_true rfl) (Nat.le_of_ble_eq_true rfl) (Nat.le_of_ble_eq_true rfl) hlocks (⟨⟨rfl, Or.inr (Or.inr (Or.inr (Or.inl (c_17))))⟩, rfl⟩) (Nat.le_of_ble_eq_true rfl) (Nat.le_of_ble_eq_true rfl)
        · refine lv_iload hx hb d_E_rules_20 (lv_at hl 4 rfl) ?_
          refine lv_if_lt (tgt := 32) hx hb d_E_rules_22 (by decide) (fun c_22 => ?_) (fun c_22 => ?_)
          · exact m_throwS (cls := "java/lang/IllegalArgumentException") (text := "high, middle or jump is not 0 .. 1000000") (names := ["java/lang/RuntimeException", "java/lang/Exception"]) (tx := mTx) hx hb hlt hown (by decide +kernel) (by decide +kernel) (hT _ k_202) (hT _ k_9) (by decide +kernel) hC (at_IllegalArgumentException hT hC.2.2.2) (good_IllegalArgumentException) hm (hl.1.trans hml.symm) d_E_rules_32 d_E_rules_35 d_E_rules_36 d_E_rules_38 d_E_rules_41 hout (Nat.le_of_ble_eq_true rfl) (Nat.le_of_ble_eq_true rfl) (Nat.le_of_ble_eq_true rfl) (Nat.le_of_ble_eq_true rfl) hlocks (⟨⟨rfl, Or.inr (Or.inr (Or.inr (Or.inr (Or.inl (c_22)))))⟩, rfl⟩) (Nat.le_of_ble_eq_true rfl) (Nat.le_of_ble_eq_true rfl)
          · refine lv_iload hx hb d_E_rules_25 (lv_at hl 4 rfl) ?_
            refine lv_ldc (v := 1000000) hx hb hown (hT _ k_201) d_E_rules_27 ?_
            refine lv_icmp_le (tgt := 42) hx hb d_E_rules_29 (by decide) (fun c_29 => ?_) (fun c_29 => ?_)
            · refine lv_iload_n hx hb d_E_rules_42 rfl (lv_at hl 2 rfl) ?_
              refine lv_iconst (v := 2) hx hb d_E_rules_43 (by decide) ?_
              refine lv_icmp_lt (tgt := 53) hx hb d_E_rules_44 (by decide) (fun c_44 => ?_) (fun c_44 => ?_)
              · exact m_throwS (cls := "java/lang/IllegalArgumentException") (text := "run is not 2 .. 12") (names := ["java/lang/RuntimeException", "java/lang/Exception"]) (tx := mTx) hx hb hlt hown (by decide +kernel) (by decide +kernel) (hT _ k_202) (hT _ k_9) (by decide +kernel) hC (at_IllegalArgumentException hT hC.2.2.2) (good_IllegalArgumentException) hm (hl.1.trans hml.symm) d_E_rules_53 d_E_rules_56 d_E_rules_57 d_E_rules_59 d_E_rules_62 hout (Nat.le_of_ble_eq_true rfl) (Nat.le_of_ble_eq_true rfl) (Nat.le_of_ble_eq_true rfl) (Nat.le_of_ble_eq_true rfl) hlocks (⟨⟨rfl, Or.inr (Or.inr (Or.inr (Or.inr (Or.inr (Or.inr (Or.inl (c_44)))))))⟩, rfl⟩) (Nat.le_of_ble_eq_true rfl) (Nat.le_of_ble_eq_true rfl)
              · refine lv_iload_n hx hb d_E_rules_47 rfl (lv_at hl 2 rfl) ?_
                refine lv_bipush (v := 12) hx hb d_E_rules_48 (by decide) ?_
                refine lv_icmp_le (tgt := 63) hx hb d_E_rules_50 (by decide) (fun c_50 => ?_) (fun c_50 => ?_)
                · refine lv_aload_n hx hb d_E_rules_63 rfl (lv_at hl 0 rfl) ?_
                  refine m_get (v := .ref (ad 5)) (C := R_E) (T := T_E) (N := 8) hx hb hT in_E hown hC.1 hm 0 rfl ((congrFun hG 0).trans gE_c0) rfl 5 (by decide) (hT _ k_92) (fun _ h9 => h9) rfl d_E_rules_64 ?_
                  refine lv_iload_n hx hb d_E_rules_67 rfl (lv_at hl 1 rfl) ?_
                  refine m_put (v := .int p0) (ty := .int) (C := R_Ru) (T := T_Ru) (N := 4) hx hb hT in_Ru t_Ru tok_Ru nm_Ru hown hC.1 hm 5 rfl ((congrFun hG 5).trans gE_c5) rfl 0 (by decide) (hT _ k_71) (fun _ h9 => h9) rfl (by decide +kernel) rfl rfl (Nat.le_of_ble_eq_true rfl) d_E_rules_68 (fun H locs hm => ?_)
                  obtain ⟨G_1, eG_1⟩ : ∃ z : mG, z = va_up G 5 (some (.inr (2, [.int p0, .int (I 0 2), .int (I 0 3), .int (I 0 4)]))) := ⟨_, rfl⟩
                  have hm : mS D mCl (mA ad G s.heap.size) s.heap ad G_1 H locs := by rw [eG_1]; exact hm
                  have g_2 := (congrFun eG_1 0).trans ((va_up_ne _ _ (by omega)).trans ((congrFun hG 0).trans gE_c0))
                  have g_3 := (congrFun eG_1 1).trans ((va_up_ne _ _ (by omega)).trans ((congrFun hG 1).trans gE_c1))
                  have g_4 := (congrFun eG_1 2).trans ((va_up_ne _ _ (by omega)).trans ((congrFun hG 2).trans gE_c2))
                  have g_5 := (congrFun eG_1 3).trans ((va_up_ne _ _ (by omega)).trans ((congrFun hG 3).trans gE_c3))
                  have g_6 := (congrFun eG_1 4).trans ((va_up_ne _ _ (by omega)).trans ((congrFun hG 4).trans gE_c4))
                  have g_7 : G_1 5 = some (.inr (2, [.int p0, .int (I 0 2), .int (I 0 3), .int (I 0 4)])) := by rw [eG_1, va_up_self]
                  refine lv_aload_n hx hb d_E_rules_71 rfl (lv_at hl 0 rfl) ?_
                  refine m_get (v := .ref (ad 5)) (C := R_E) (T := T_E) (N := 8) hx hb hT in_E hown hC.1 hm 0 rfl g_2 rfl 5 (by decide) (hT _ k_92) (fun _ h9 => h9) rfl d_E_rules_72 ?_
                  refine lv_iload_n hx hb d_E_rules_75 rfl (lv_at hl 2 rfl) ?_
                  refine m_put (v := .int p1) (ty := .int) (C := R_Ru) (T := T_Ru) (N := 4) hx hb hT in_Ru t_Ru tok_Ru nm_Ru hown hC.1 hm 5 rfl g_7 rfl 1 (by decide) (hT _ k_73) (fun _ h9 => h9) rfl (by decide +kernel) rfl rfl (Nat.le_of_ble_eq_true rfl) d_E_rules_76 (fun H locs hm => ?_)
                  obtain ⟨G_8, eG_8⟩ : ∃ z : mG, z = va_up G_1 5 (some (.inr (2, [.int p0, .int p1, .int (I 0 3), .int (I 0 4)]))) := ⟨_, rfl⟩
                  have hm : mS D mCl (mA ad G s.heap.size) s.heap ad G_8 H locs := by rw [eG_8]; exact hm
                  have g_9 := (congrFun eG_8 0).trans ((va_up_ne _ _ (by omega)).trans g_2)
                  have g_10 := (congrFun eG_8 1).trans ((va_up_ne _ _ (by omega)).trans g_3)
                  have g_11 := (congrFun eG_8 2).trans ((va_up_ne _ _ (by omega)).trans g_4)
                  have g_12 := (congrFun eG_8 3).trans ((va_up_ne _ _ (by omega)).trans g_5)
                  have g_13 := (congrFun eG_8 4).trans ((va_up_ne _ _ (by omega)).trans g_6)
                  have g_14 : G_8 5 = some (.inr (2, [.int p0, .int p1, .int (I 0 3), .int (I 0 4)])) := by rw [eG_8, va_up_self]
                  refine lv_aload_n hx hb d_E_rules_79 rfl (lv_at hl 0 rfl) ?_
                  refine m_get (v := .ref (ad 5)) (C := R_E) (T := T_E) (N := 8) hx hb hT in_E hown hC.1 hm 0 rfl g_9 rfl 5 (by decide) (hT _ k_92) (fun _ h9 => h9) rfl d_E_rules_80 ?_
                  refine lv_iload_n hx hb d_E_rules_83 rfl (lv_at hl 3 rfl) ?_
                  refine m_put (v := .int p2) (ty := .int) (C := R_Ru) (T := T_Ru) (N := 4) hx hb hT in_Ru t_Ru tok_Ru nm_Ru hown hC.1 hm 5 rfl g_14 rfl 2 (by decide) (hT _ k_75) (fun _ h9 => h9) rfl (by decide +kernel) rfl rfl (Nat.le_of_ble_eq_true rfl) d_E_rules_84 (fun H locs hm => ?_)
                  obtain ⟨G_15, eG_15⟩ : ∃ z : mG, z = va_up G_8 5 (some (.inr (2, [.int p0, .int p1, .int p2, .int (I 0 4)]))) := ⟨_, rfl⟩
                  have hm : mS D mCl (mA ad G s.heap.size) s.heap ad G_15 H locs := by rw [eG_15]; exact hm
                  have g_16 := (congrFun eG_15 0).trans ((va_up_ne _ _ (by omega)).trans g_9)
                  have g_17 := (congrFun eG_15 1).trans ((va_up_ne _ _ (by omega)).trans g_10)
                  have g_18 := (congrFun eG_15 2).trans ((va_up_ne _ _ (by omega)).trans g_11)
                  have g_19 := (congrFun eG_15 3).trans ((va_up_ne _ _ (by omega)).trans g_12)
                  have g_20 := (congrFun eG_15 4).trans ((va_up_ne _ _ (by omega)).trans g_13)
                  have g_21 : G_15 5 = some (.inr (2, [.int p0, .int p1, .int p2, .int (I 0 4)])) := by rw [eG_15, va_up_self]
                  refine lv_aload_n hx hb d_E_rules_87 rfl (lv_at hl 0 rfl) ?_
                  refine m_get (v := .ref (ad 5)) (C := R_E) (T := T_E) (N := 8) hx hb hT in_E hown hC.1 hm 0 rfl g_16 rfl 5 (by decide) (hT _ k_92) (fun _ h9 => h9) rfl d_E_rules_88 ?_
                  refine lv_iload hx hb d_E_rules_91 (lv_at hl 4 rfl) ?_
                  refine m_put (v := .int p3) (ty := .int) (C := R_Ru) (T := T_Ru) (N := 4) hx hb hT in_Ru t_Ru tok_Ru nm_Ru hown hC.1 hm 5 rfl g_21 rfl 3 (by decide) (hT _ k_77) (fun _ h9 => h9) rfl (by decide +kernel) rfl rfl (Nat.le_of_ble_eq_true rfl) d_E_rules_93 (fun H locs hm => ?_)
                  obtain ⟨G_22, eG_22⟩ : ∃ z : mG, z = va_up G_15 5 (some (.inr (2, [.int p0, .int p1, .int p2, .int p3]))) := ⟨_, rfl⟩
                  have hm : mS D mCl (mA ad G s.heap.size) s.heap ad G_22 H locs := by rw [eG_22]; exact hm
                  have g_23 := (congrFun eG_22 0).trans ((va_up_ne _ _ (by omega)).trans g_16)
                  have g_24 := (congrFun eG_22 1).trans ((va_up_ne _ _ (by omega)).trans g_17)
                  have g_25 := (congrFun eG_22 2).trans ((va_up_ne _ _ (by omega)).trans g_18)
                  have g_26 := (congrFun eG_22 3).trans ((va_up_ne _ _ (by omega)).trans g_19)
                  have g_27 := (congrFun eG_22 4).trans ((va_up_ne _ _ (by omega)).trans g_20)
                  have g_28 : G_22 5 = some (.inr (2, [.int p0, .int p1, .int p2, .int p3])) := by rw [eG_22, va_up_self]
                  refine W.widen (k := 1) (n := 6) (by omega) (by omega) ?_
                  refine vx_ret ?_
                  exact m_vret hx hb hr hm (⟨fun h => h.elim c_1 (fun h => h.elim c_7 (fun h => h.elim c_11 (fun h => h.elim c_17 (fun h => h.elim c_22 (fun h => h.elim (fun h => Int32.not_lt.mpr c_29 h) (fun h => h.elim c_44 (fun h => Int32.not_lt.mpr c_50 h))))))), by rw [eG_22, eG_15, eG_8, eG_1, bx_uu, bx_uu, bx_uu, hG, gE_urules]⟩) d_E_rules_96 hlocks
                · exact m_throwS (cls := "java/lang/IllegalArgumentException") (text := "run is not 2 .. 12") (names := ["java/lang/RuntimeException", "java/lang/Exception"]) (tx := mTx) hx hb hlt hown (by decide +kernel) (by decide +kernel) (hT _ k_202) (hT _ k_9) (by decide +kernel) hC (at_IllegalArgumentException hT hC.2.2.2) (good_IllegalArgumentException) hm (hl.1.trans hml.symm) d_E_rules_53 d_E_rules_56 d_E_rules_57 d_E_rules_59 d_E_rules_62 hout (Nat.le_of_ble_eq_true rfl) (Nat.le_of_ble_eq_true rfl) (Nat.le_of_ble_eq_true rfl) (Nat.le_of_ble_eq_true rfl) hlocks (⟨⟨rfl, Or.inr (Or.inr (Or.inr (Or.inr (Or.inr (Or.inr (Or.inr ((Int32.not_le.mp c_50))))))))⟩, rfl⟩) (Nat.le_of_ble_eq_true rfl) (Nat.le_of_ble_eq_true rfl)
            · exact m_throwS (cls := "java/lang/IllegalArgumentException") (text := "high, middle or jump is not 0 .. 1000000") (names := ["java/lang/RuntimeException", "java/lang/Exception"]) (tx := mTx) hx hb hlt hown (by decide +kernel) (by decide +kernel) (hT _ k_202) (hT _ k_9) (by decide +kernel) hC (at_IllegalArgumentException hT hC.2.2.2) (good_IllegalArgumentException) hm (hl.1.trans hml.symm) d_E_rules_32 d_E_rules_35 d_E_rules_36 d_E_rules_38 d_E_rules_41 hout (Nat.le_of_ble_eq_true rfl) (Nat.le_of_ble_eq_true rfl) (Nat.le_of_ble_eq_true rfl) (Nat.le_of_ble_eq_true rfl) hlocks (⟨⟨rfl, Or.inr (Or.inr (Or.inr (Or.inr (Or.inr (Or.inl (Int32.not_le.mp c_29))))))⟩, rfl⟩) (Nat.le_of_ble_eq_true rfl) (Nat.le_of_ble_eq_true rfl)

set_option maxHeartbeats 4000000 in
set_option maxRecDepth 100000 in
theorem c_E_change (l : Launch) (hlt : l.stackTraces = false) (D : va_G) (dA : Nat → ClassId) (ad : Nat → Nat) (G : mG) (sz : Nat) (I : Nat → Nat → Int32) (J : Nat → Nat → Int64) (F : Nat → Nat → Nat → Int32) (si : Nat → Nat) (tc oc : Nat) (G0 : mG) (hG : G = gE dA ad I J F si tc oc G0) (ht : tc ≤ 12) (hL : ∀ i, i < 4 → ∃ c, c ≤ 40 ∧ I 2 i = nI c) (p0 : Int32) : vx_Met l y_E_change (.code y_E_change b_E_change 3 (some .int) :: mBig) ({ frames := 7, cells := 2, slots := 12, locals := 104 }) (mPc [.ref (ad 0), .int p0] D mCl (mTys dA) mTx ad G sz) (mQi (fun (rv : Int32) (u : mU) => (∃ i kc, i < 4 ∧ p0 = nI i ∧ kc ≤ 40 ∧ I 2 i = nI kc ∧ 1 ≤ kc ∧ rv = eBest (F 0 i) (I 3 i) (I 4 i) kc (kc - 1)) ∧ u = (ad, G)) D mCl ad G sz) (mXC (fun (E : String) (u : mU) => ((E = "java/lang/IndexOutOfBoundsException" ∧ ¬ ∃ i, i < 4 ∧ p0 = nI i) ∨ (E = "java/lang/IllegalStateException" ∧ ∃ i, i < 4 ∧ p0 = nI i ∧ I 2 i = 0)) ∧ u = (ad, G)) D mCl ad G sz) 2 12 (mA ad G sz) := by
  refine vx_ofW (cc := b_E_change) (maxL := 3) (ret := (some .int)) (by decide) rfl ?_
  intro p e s m args below meth c s₁ B hml hout hv
  obtain ⟨rfl, hsz, hw0, hC⟩ := hv
  have hx := B.exec
  have hb := B.bytes
  have hr := B.returns
  have hts := atoms_spec (ws := .code y_E_change b_E_change 3 (some .int) :: mBig) B.pre
  have hT : ∀ w ∈ mBig, w.before _ s = true := fun w h => hts w (List.mem_cons_of_mem _ h)
  have hown : s.vm.findClass "EdgeWear" = some m.cls := findClass_of_methodNamed B.named
  have hlocks := B.notSynchronized
  subst hsz
  have hm := mS.start hw0
  have hA : ∀ q : Nat, s.heap.size ≤ q → mA ad G s.heap.size q := fun q h => Or.inr h
  have hl := lv_entry ([.ref (ad 0), .int p0]) (n := 3) (Nat.le_of_ble_eq_true rfl)
  rw [lg_entry_eq]
  generalize (lg_sl ([.ref (ad 0), .int p0]) ++ List.replicate (3 - (lg_sl ([.ref (ad 0), .int p0])).length) Slot.unset).toArray = ls at hl ⊢
  have hl : lv_has ls 3 [(0, .ref (ad 0)), (1, .int p0)] := hl
  refine lv_aload_n hx hb d_E_change_0 rfl (lv_at hl 0 rfl) ?_
  refine lv_iload_n hx hb d_E_change_1 rfl (lv_at hl 1 rfl) ?_
  refine x_roq (x_runV (As := [.int p0]) (rest := []) ⟨hx, hb, hml, hown, hts⟩ (c_E_sortAt l hlt D dA ad G s.heap.size I J F si tc oc G0 hG ht p0) (cwV 1 hts (gV k_132 k_129 k_131 ks_0 k_1) rfl rfl rfl (by decide +kernel) ⟨Nat.le_of_ble_eq_true rfl, Nat.le_of_ble_eq_true rfl⟩) hm hA hC 0 rfl ((congrFun hG 0).trans gE_c0) rfl rfl rfl hl.1 rfl (Nat.le_of_ble_eq_true rfl) d_E_change_2 ⟨Nat.le_of_ble_eq_true rfl, Nat.le_of_ble_eq_true rfl⟩) hm hA (fun E ce q9 H locs w_2 hm h7 h8 h9 => ?_) (fun r_1 H locs w_2 hm => ?_)
  · exact m_out hout hlocks hm h7 h8 h9 (by
      obtain ⟨rfl, hq⟩ := w_2
      exact ⟨Or.inl ⟨rfl, hq⟩, rfl⟩) (by decide) (by decide)
  · obtain ⟨i, hi, epi, er⟩ := w_2
    subst er
    rw [show va_rf (some (ad (10 + i))) = .ref (ad (10 + i)) from rfl]
    refine lv_astore_n (lv' := [(2, .ref (ad (10 + i))), (0, .ref (ad 0)), (1, .int p0)]) hx hb d_E_change_5 rfl hl (by decide) rfl (fun ls hl => ?_)
    obtain ⟨kc, hkc, ekc⟩ := hL i hi
    refine lv_aload_n hx hb d_E_change_6 rfl (lv_at hl 0 rfl) ?_
    refine m_get (v := .int (I 2 i)) (C := R_So) (T := T_So) (N := 6) hx hb hT in_So hown hC.1 hm (10 + i) rfl ((congrFun hG (10 + i)).trans (gE_so hi)) rfl 2 (by decide) (hT _ k_38) (fun _ h9 => h9) rfl d_E_change_7 ?_
    refine lv_if_ne (tgt := 23) hx hb d_E_change_10 (by decide) (fun c_10 => ?_) (fun c_10 => ?_)
    · have hk1 : 1 ≤ kc := Nat.pos_of_ne_zero (fun q => c_10 (by rw [ekc, q]; rfl))
      refine lv_aload_n hx hb d_E_change_23 rfl (lv_at hl 0 rfl) ?_
      refine m_roi (m_runV (As := []) (rest := []) ⟨hx, hb, hml, hown, hts⟩ (c_So_bestUses l D dA ad G H.size (10 + i) (20 + i) (nI i) (I 2 i) (J 0 i) (I 3 i) (I 4 i) (F 0 i) kc ekc hkc hk1 ((congrFun hG (10 + i)).trans (gE_so hi)) ((congrFun hG (20 + i)).trans (gE_li hi))) (cwV 0 hts (gV k_422 k_419 k_420 k_421 k_2) rfl rfl rfl (by decide +kernel) ⟨Nat.le_of_ble_eq_true rfl, Nat.le_of_ble_eq_true rfl⟩) hm hA hC (10 + i) rfl ((congrFun hG (10 + i)).trans (gE_so hi)) rfl rfl rfl hl.1 rfl (Nat.le_of_ble_eq_true rfl) d_E_change_24 ⟨Nat.le_of_ble_eq_true rfl, Nat.le_of_ble_eq_true rfl⟩) hm hA (fun r_3 H locs w_4 hm => ?_)
      refine W.widen (k := 2) (n := 12) (by omega) (by omega) ?_
      refine vx_ret ?_
      exact m_iret (v := r_3) hx hb hr hm (⟨⟨i, kc, hi, epi, hkc, ekc, hk1, w_4⟩, rfl⟩) d_E_change_27 hlocks
    · exact m_throwS (cls := "java/lang/IllegalStateException") (text := "no lives") (names := ["java/lang/RuntimeException", "java/lang/Exception"]) (tx := mTx) hx hb hlt hown (by decide +kernel) (by decide +kernel) (hT _ k_218) (hT _ k_10) (by decide +kernel) hC (at_IllegalStateException hT hC.2.2.2) (good_IllegalStateException) hm (hl.1.trans hml.symm) d_E_change_13 d_E_change_16 d_E_change_17 d_E_change_19 d_E_change_22 hout (Nat.le_of_ble_eq_true rfl) (Nat.le_of_ble_eq_true rfl) (Nat.le_of_ble_eq_true rfl) (Nat.le_of_ble_eq_true rfl) hlocks (⟨Or.inr ⟨rfl, i, hi, epi, c_10⟩, rfl⟩) (Nat.le_of_ble_eq_true rfl) (Nat.le_of_ble_eq_true rfl)

set_option maxHeartbeats 4000000 in
set_option maxRecDepth 100000 in
theorem c_E_changed (l : Launch) (hlt : l.stackTraces = false) (D : va_G) (dA : Nat → ClassId) (ad : Nat → Nat) (G : mG) (sz : Nat) (I : Nat → Nat → Int32) (J : Nat → Nat → Int64) (F : Nat → Nat → Nat → Int32) (si : Nat → Nat) (tc oc : Nat) (G0 : mG) (hG : G = gE dA ad I J F si tc oc G0) (ht : tc ≤ 12) (hL : ∀ i, i < 4 → ∃ c, c ≤ 40 ∧ I 2 i = nI c) (p0 p1 p2 : Int32) : vx_Met l y_E_changed (.code y_E_changed b_E_changed 5 (some .long) :: mBig) ({ frames := 7, cells := 2, slots := 12, locals := 104 }) (mPc [.ref (ad 0), .int p0, .int p1, .int p2] D mCl (mTys dA) mTx ad G sz) (mQl (fun (rv : Int64) (u : mU) => (∃ i kc, i < 4 ∧ p0 = nI i ∧ kc ≤ 40 ∧ I 2 i = nI kc ∧ (p2 = 0 ∨ p2 = 1) ∧ ¬ p1 < 1 ∧ p1 ≤ eMax (F 0 i) kc ∧ rv = if p2 = 0 then eCost (F 0 i) (I 3 i) (I 4 i) p1 kc else eUses (F 0 i) p1 kc) ∧ u = (ad, G)) D mCl ad G sz) (mXC (fun (E : String) (u : mU) => ((E = "java/lang/IndexOutOfBoundsException" ∧ ¬ ((∃ i, i < 4 ∧ p0 = nI i) ∧ (p2 = 0 ∨ p2 = 1))) ∨ (E = "java/lang/IllegalArgumentException" ∧ ((∃ i, i < 4 ∧ p0 = nI i) ∧ (p2 = 0 ∨ p2 = 1)) ∧ p1 < 1) ∨ (E = "java/lang/IllegalStateException" ∧ (p2 = 0 ∨ p2 = 1) ∧ ¬ p1 < 1 ∧ ∃ i kc, i < 4 ∧ p0 = nI i ∧ kc ≤ 40 ∧ I 2 i = nI kc ∧ eMax (F 0 i) kc < p1)) ∧ u = (ad, G)) D mCl ad G sz) 2 12 (mA ad G sz) := by
  refine vx_ofW (cc := b_E_changed) (maxL := 5) (ret := (some .long)) (by decide) rfl ?_
  intro p e s m args below meth c s₁ B hml hout hv
  obtain ⟨rfl, hsz, hw0, hC⟩ := hv
  have hx := B.exec
  have hb := B.bytes
  have hr := B.returns
  have hts := atoms_spec (ws := .code y_E_changed b_E_changed 5 (some .long) :: mBig) B.pre
  have hT : ∀ w ∈ mBig, w.before _ s = true := fun w h => hts w (List.mem_cons_of_mem _ h)
  have hown : s.vm.findClass "EdgeWear" = some m.cls := findClass_of_methodNamed B.named
  have hlocks := B.notSynchronized
  subst hsz
  have hm := mS.start hw0
  have hA : ∀ q : Nat, s.heap.size ≤ q → mA ad G s.heap.size q := fun q h => Or.inr h
  have hl := lv_entry ([.ref (ad 0), .int p0, .int p1, .int p2]) (n := 5) (Nat.le_of_ble_eq_true rfl)
  rw [lg_entry_eq]
  generalize (lg_sl ([.ref (ad 0), .int p0, .int p1, .int p2]) ++ List.replicate (5 - (lg_sl ([.ref (ad 0), .int p0, .int p1, .int p2])).length) Slot.unset).toArray = ls at hl ⊢
  have hl : lv_has ls 5 [(0, .ref (ad 0)), (1, .int p0), (2, .int p1), (3, .int p2)] := hl
  refine lv_aload_n hx hb d_E_changed_0 rfl (lv_at hl 0 rfl) ?_
  refine lv_iload_n hx hb d_E_changed_1 rfl (lv_at hl 1 rfl) ?_
  refine x_roq (x_runV (As := [.int p0]) (rest := []) ⟨hx, hb, hml, hown, hts⟩ (c_E_sortAt l hlt D dA ad G s.heap.size I J F si tc oc G0 hG ht p0) (cwV 1 hts (gV k_132 k_129 k_131 ks_0 k_1) rfl rfl rfl (by decide +kernel) ⟨Nat.le_of_ble_eq_true rfl, Nat.le_of_ble_eq_true rfl⟩) hm hA hC 0 rfl ((congrFun hG 0).trans gE_c0) rfl rfl rfl hl.1 rfl (Nat.le_of_ble_eq_true rfl) d_E_changed_2 ⟨Nat.le_of_ble_eq_true rfl, Nat.le_of_ble_eq_true rfl⟩) hm hA (fun E ce q9 H locs w_2 hm h7 h8 h9 => ?_) (fun r_1 H locs w_2 hm => ?_)
  · exact m_out hout hlocks hm h7 h8 h9 (by
      obtain ⟨rfl, hq⟩ := w_2
      exact ⟨Or.inl ⟨rfl, fun h => hq h.1⟩, rfl⟩) (by decide) (by decide)
  · obtain ⟨i, hi, epi, er⟩ := w_2
    subst er
    rw [show va_rf (some (ad (10 + i))) = .ref (ad (10 + i)) from rfl]
    refine lv_astore (lv' := [(4, .ref (ad (10 + i))), (0, .ref (ad 0)), (1, .int p0), (2, .int p1), (3, .int p2)]) hx hb d_E_changed_5 hl (by decide) rfl (fun ls hl => ?_)
    obtain ⟨kc, hkc, ekc⟩ := hL i hi
    refine lv_iload_n hx hb d_E_changed_7 rfl (lv_at hl 4 rfl) ?_
    refine lv_if_eq (tgt := 26) hx hb d_E_changed_8 (by decide) (fun c_8 => ?_) (fun c_8 => ?_)
    · refine lv_iload_n hx hb d_E_changed_26 rfl (lv_at hl 3 rfl) ?_
      refine lv_iconst (v := 1) hx hb d_E_changed_27 (by decide) ?_
      refine lv_icmp_ge (tgt := 41) hx hb d_E_changed_28 (by decide) (fun c_28 => ?_) (fun c_28 => ?_)
      · refine lv_iload_n hx hb d_E_changed_41 rfl (lv_at hl 3 rfl) ?_
        refine lv_aload hx hb d_E_changed_42 (lv_at hl 0 rfl) ?_
        refine m_roi (m_runV (As := []) (rest := [.int p1]) ⟨hx, hb, hml, hown, hts⟩ (c_So_greatestLife l D dA ad G H.size (10 + i) (20 + i) (nI i) (I 2 i) (J 0 i) (I 3 i) (I 4 i) (F 0 i) kc ekc hkc ((congrFun hG (10 + i)).trans (gE_so hi)) ((congrFun hG (20 + i)).trans (gE_li hi))) (cwV 0 hts (gV k_450 k_447 k_448 k_449 k_2) rfl rfl rfl (by decide +kernel) ⟨Nat.le_of_ble_eq_true rfl, Nat.le_of_ble_eq_true rfl⟩) hm hA hC (10 + i) rfl ((congrFun hG (10 + i)).trans (gE_so hi)) rfl rfl rfl hl.1 rfl (Nat.le_of_ble_eq_true rfl) d_E_changed_44 ⟨Nat.le_of_ble_eq_true rfl, Nat.le_of_ble_eq_true rfl⟩) hm hA (fun r_3 H locs w_4 hm => ?_)
        refine lv_icmp_le (tgt := 60) hx hb d_E_changed_47 (by decide) (fun c_47 => ?_) (fun c_47 => ?_)
        · refine lv_iload_n hx hb d_E_changed_60 rfl (lv_at hl 4 rfl) ?_
          refine lv_if_ne (tgt := 73) hx hb d_E_changed_61 (by decide) (fun c_61 => ?_) (fun c_61 => ?_)
          · refine lv_aload hx hb d_E_changed_73 (lv_at hl 0 rfl) ?_
            refine lv_iload_n hx hb d_E_changed_75 rfl (lv_at hl 3 rfl) ?_
            refine m_rol (m_runV (As := [.int p1]) (rest := []) ⟨hx, hb, hml, hown, hts⟩ (c_So_usesAt l D dA ad G H.size (10 + i) (20 + i) (nI i) (I 2 i) (J 0 i) (I 3 i) (I 4 i) (F 0 i) p1 kc ekc hkc ((congrFun hG (10 + i)).trans (gE_so hi)) ((congrFun hG (20 + i)).trans (gE_li hi))) (cwV 1 hts (gV k_434 k_456 k_432 k_433 k_2) rfl rfl rfl (by decide +kernel) ⟨Nat.le_of_ble_eq_true rfl, Nat.le_of_ble_eq_true rfl⟩) hm hA hC (10 + i) rfl ((congrFun hG (10 + i)).trans (gE_so hi)) rfl rfl rfl hl.1 rfl (Nat.le_of_ble_eq_true rfl) d_E_changed_76 ⟨Nat.le_of_ble_eq_true rfl, Nat.le_of_ble_eq_true rfl⟩) hm hA (fun r_5 H locs w_6 hm => ?_)
            refine W.widen (k := 2) (n := 12) (by omega) (by omega) ?_
            refine vx_ret ?_
            exact m_lret (v := r_5) hx hb hr hm (⟨⟨i, kc, hi, epi, hkc, ekc, Or.inl c_8, Int32.not_lt.mpr c_28, by have h9 := c_47; rw [w_4] at h9; exact h9, by rw [if_neg c_61, w_6]⟩, rfl⟩) d_E_changed_79 hlocks
          · refine lv_aload hx hb d_E_changed_64 (lv_at hl 0 rfl) ?_
            refine lv_iload_n hx hb d_E_changed_66 rfl (lv_at hl 3 rfl) ?_
            refine m_rol (m_runV (As := [.int p1]) (rest := []) ⟨hx, hb, hml, hown, hts⟩ (c_So_costAt l D dA ad G H.size (10 + i) (20 + i) (nI i) (I 2 i) (J 0 i) (I 3 i) (I 4 i) (F 0 i) p1 kc ekc hkc ((congrFun hG (10 + i)).trans (gE_so hi)) ((congrFun hG (20 + i)).trans (gE_li hi))) (cwV 1 hts (gV k_430 k_455 k_428 k_429 k_2) rfl rfl rfl (by decide +kernel) ⟨Nat.le_of_ble_eq_true rfl, Nat.le_of_ble_eq_true rfl⟩) hm hA hC (10 + i) rfl ((congrFun hG (10 + i)).trans (gE_so hi)) rfl rfl rfl hl.1 rfl (Nat.le_of_ble_eq_true rfl) d_E_changed_67 ⟨Nat.le_of_ble_eq_true rfl, Nat.le_of_ble_eq_true rfl⟩) hm hA (fun r_7 H locs w_8 hm => ?_)
            refine lv_goto (tgt := 79) hx hb d_E_changed_70 (by decide) ?_
            refine W.widen (k := 2) (n := 12) (by omega) (by omega) ?_
            refine vx_ret ?_
            exact m_lret (v := r_7) hx hb hr hm (⟨⟨i, kc, hi, epi, hkc, ekc, Or.inl c_8, Int32.not_lt.mpr c_28, by have h9 := c_47; rw [w_4] at h9; exact h9, by rw [if_pos c_61, w_8]⟩, rfl⟩) d_E_changed_79 hlocks
        · exact m_throwS (cls := "java/lang/IllegalStateException") (text := "no lives, or n is above the greatest") (names := ["java/lang/RuntimeException", "java/lang/Exception"]) (tx := mTx) hx hb hlt hown (by decide +kernel) (by decide +kernel) (hT _ k_218) (hT _ k_10) (by decide +kernel) hC (at_IllegalStateException hT hC.2.2.2) (good_IllegalStateException) hm (hl.1.trans hml.symm) d_E_changed_50 d_E_changed_53 d_E_changed_54 d_E_changed_56 d_E_changed_59 hout (Nat.le_of_ble_eq_true rfl) (Nat.le_of_ble_eq_true rfl) (Nat.le_of_ble_eq_true rfl) (Nat.le_of_ble_eq_true rfl) hlocks (⟨Or.inr (Or.inr ⟨rfl, Or.inl c_8, Int32.not_lt.mpr c_28, i, kc, hi, epi, hkc, ekc, by have h9 := Int32.not_le.mp c_47; rw [w_4] at h9; exact h9⟩), rfl⟩) (Nat.le_of_ble_eq_true rfl) (Nat.le_of_ble_eq_true rfl)
      · exact m_throwS (cls := "java/lang/IllegalArgumentException") (text := "n is below 1") (names := ["java/lang/RuntimeException", "java/lang/Exception"]) (tx := mTx) hx hb hlt hown (by decide +kernel) (by decide +kernel) (hT _ k_202) (hT _ k_9) (by decide +kernel) hC (at_IllegalArgumentException hT hC.2.2.2) (good_IllegalArgumentException) hm (hl.1.trans hml.symm) d_E_changed_31 d_E_changed_34 d_E_changed_35 d_E_changed_37 d_E_changed_40 hout (Nat.le_of_ble_eq_true rfl) (Nat.le_of_ble_eq_true rfl) (Nat.le_of_ble_eq_true rfl) (Nat.le_of_ble_eq_true rfl) hlocks (⟨Or.inr (Or.inl ⟨rfl, ⟨⟨i, hi, epi⟩, Or.inl c_8⟩, Int32.not_le.mp c_28⟩), rfl⟩) (Nat.le_of_ble_eq_true rfl) (Nat.le_of_ble_eq_true rfl)
    · refine lv_iload_n hx hb d_E_changed_11 rfl (lv_at hl 4 rfl) ?_
      refine lv_iconst (v := 1) hx hb d_E_changed_12 (by decide) ?_
      refine lv_icmp_eq (tgt := 26) hx hb d_E_changed_13 (by decide) (fun c_13 => ?_) (fun c_13 => ?_)
      · refine lv_iload_n hx hb d_E_changed_26 rfl (lv_at hl 3 rfl) ?_
        refine lv_iconst (v := 1) hx hb d_E_changed_27 (by decide) ?_
        refine lv_icmp_ge (tgt := 41) hx hb d_E_changed_28 (by decide) (fun c_28 => ?_) (fun c_28 => ?_)
        · refine lv_iload_n hx hb d_E_changed_41 rfl (lv_at hl 3 rfl) ?_
          refine lv_aload hx hb d_E_changed_42 (lv_at hl 0 rfl) ?_
          refine m_roi (m_runV (As := []) (rest := [.int p1]) ⟨hx, hb, hml, hown, hts⟩ (c_So_greatestLife l D dA ad G H.size (10 + i) (20 + i) (nI i) (I 2 i) (J 0 i) (I 3 i) (I 4 i) (F 0 i) kc ekc hkc ((congrFun hG (10 + i)).trans (gE_so hi)) ((congrFun hG (20 + i)).trans (gE_li hi))) (cwV 0 hts (gV k_450 k_447 k_448 k_449 k_2) rfl rfl rfl (by decide +kernel) ⟨Nat.le_of_ble_eq_true rfl, Nat.le_of_ble_eq_true rfl⟩) hm hA hC (10 + i) rfl ((congrFun hG (10 + i)).trans (gE_so hi)) rfl rfl rfl hl.1 rfl (Nat.le_of_ble_eq_true rfl) d_E_changed_44 ⟨Nat.le_of_ble_eq_true rfl, Nat.le_of_ble_eq_true rfl⟩) hm hA (fun r_9 H locs w_10 hm => ?_)
          refine lv_icmp_le (tgt := 60) hx hb d_E_changed_47 (by decide) (fun c_47 => ?_) (fun c_47 => ?_)
          · refine lv_iload_n hx hb d_E_changed_60 rfl (lv_at hl 4 rfl) ?_
            refine lv_if_ne (tgt := 73) hx hb d_E_changed_61 (by decide) (fun c_61 => ?_) (fun c_61 => ?_)
            · refine lv_aload hx hb d_E_changed_73 (lv_at hl 0 rfl) ?_
              refine lv_iload_n hx hb d_E_changed_75 rfl (lv_at hl 3 rfl) ?_
              refine m_rol (m_runV (As := [.int p1]) (rest := []) ⟨hx, hb, hml, hown, hts⟩ (c_So_usesAt l D dA ad G H.size (10 + i) (20 + i) (nI i) (I 2 i) (J 0 i) (I 3 i) (I 4 i) (F 0 i) p1 kc ekc hkc ((congrFun hG (10 + i)).trans (gE_so hi)) ((congrFun hG (20 + i)).trans (gE_li hi))) (cwV 1 hts (gV k_434 k_456 k_432 k_433 k_2) rfl rfl rfl (by decide +kernel) ⟨Nat.le_of_ble_eq_true rfl, Nat.le_of_ble_eq_true rfl⟩) hm hA hC (10 + i) rfl ((congrFun hG (10 + i)).trans (gE_so hi)) rfl rfl rfl hl.1 rfl (Nat.le_of_ble_eq_true rfl) d_E_changed_76 ⟨Nat.le_of_ble_eq_true rfl, Nat.le_of_ble_eq_true rfl⟩) hm hA (fun r_11 H locs w_12 hm => ?_)
              refine W.widen (k := 2) (n := 12) (by omega) (by omega) ?_
              refine vx_ret ?_
              exact m_lret (v := r_11) hx hb hr hm (⟨⟨i, kc, hi, epi, hkc, ekc, Or.inr c_13, Int32.not_lt.mpr c_28, by have h9 := c_47; rw [w_10] at h9; exact h9, by rw [if_neg c_61, w_12]⟩, rfl⟩) d_E_changed_79 hlocks
            · refine lv_aload hx hb d_E_changed_64 (lv_at hl 0 rfl) ?_
              refine lv_iload_n hx hb d_E_changed_66 rfl (lv_at hl 3 rfl) ?_
              refine m_rol (m_runV (As := [.int p1]) (rest := []) ⟨hx, hb, hml, hown, hts⟩ (c_So_costAt l D dA ad G H.size (10 + i) (20 + i) (nI i) (I 2 i) (J 0 i) (I 3 i) (I 4 i) (F 0 i) p1 kc ekc hkc ((congrFun hG (10 + i)).trans (gE_so hi)) ((congrFun hG (20 + i)).trans (gE_li hi))) (cwV 1 hts (gV k_430 k_455 k_428 k_429 k_2) rfl rfl rfl (by decide +kernel) ⟨Nat.le_of_ble_eq_true rfl, Nat.le_of_ble_eq_true rfl⟩) hm hA hC (10 + i) rfl ((congrFun hG (10 + i)).trans (gE_so hi)) rfl rfl rfl hl.1 rfl (Nat.le_of_ble_eq_true rfl) d_E_changed_67 ⟨Nat.le_of_ble_eq_true rfl, Nat.le_of_ble_eq_true rfl⟩) hm hA (fun r_13 H locs w_14 hm => ?_)
              refine lv_goto (tgt := 79) hx hb d_E_changed_70 (by decide) ?_
              refine W.widen (k := 2) (n := 12) (by omega) (by omega) ?_
              refine vx_ret ?_
              exact m_lret (v := r_13) hx hb hr hm (⟨⟨i, kc, hi, epi, hkc, ekc, Or.inr c_13, Int32.not_lt.mpr c_28, by have h9 := c_47; rw [w_10] at h9; exact h9, by rw [if_pos c_61, w_14]⟩, rfl⟩) d_E_changed_79 hlocks
          · exact m_throwS (cls := "java/lang/IllegalStateException") (text := "no lives, or n is above the greatest") (names := ["java/lang/RuntimeException", "java/lang/Exception"]) (tx := mTx) hx hb hlt hown (by decide +kernel) (by decide +kernel) (hT _ k_218) (hT _ k_10) (by decide +kernel) hC (at_IllegalStateException hT hC.2.2.2) (good_IllegalStateException) hm (hl.1.trans hml.symm) d_E_changed_50 d_E_changed_53 d_E_changed_54 d_E_changed_56 d_E_changed_59 hout (Nat.le_of_ble_eq_true rfl) (Nat.le_of_ble_eq_true rfl) (Nat.le_of_ble_eq_true rfl) (Nat.le_of_ble_eq_true rfl) hlocks (⟨Or.inr (Or.inr ⟨rfl, Or.inr c_13, Int32.not_lt.mpr c_28, i, kc, hi, epi, hkc, ekc, by have h9 := Int32.not_le.mp c_47; rw [w_10] at h9; exact h9⟩), rfl⟩) (Nat.le_of_ble_eq_true rfl) (Nat.le_of_ble_eq_true rfl)
        · exact m_throwS (cls := "java/lang/IllegalArgumentException") (text := "n is below 1") (names := ["java/lang/RuntimeException", "java/lang/Exception"]) (tx := mTx) hx hb hlt hown (by decide +kernel) (by decide +kernel) (hT _ k_202) (hT _ k_9) (by decide +kernel) hC (at_IllegalArgumentException hT hC.2.2.2) (good_IllegalArgumentException) hm (hl.1.trans hml.symm) d_E_changed_31 d_E_changed_34 d_E_changed_35 d_E_changed_37 d_E_changed_40 hout (Nat.le_of_ble_eq_true rfl) (Nat.le_of_ble_eq_true rfl) (Nat.le_of_ble_eq_true rfl) (Nat.le_of_ble_eq_true rfl) hlocks (⟨Or.inr (Or.inl ⟨rfl, ⟨⟨i, hi, epi⟩, Or.inr c_13⟩, Int32.not_le.mp c_28⟩), rfl⟩) (Nat.le_of_ble_eq_true rfl) (Nat.le_of_ble_eq_true rfl)
      · exact m_throwS (cls := "java/lang/IndexOutOfBoundsException") (text := "no such part") (names := ["java/lang/RuntimeException", "java/lang/Exception"]) (tx := mTx) hx hb hlt hown (by decide +kernel) (by decide +kernel) (hT _ k_133) (hT _ k_8) (by decide +kernel) hC (at_IndexOutOfBoundsException hT hC.2.2.2) (good_IndexOutOfBoundsException) hm (hl.1.trans hml.symm) d_E_changed_16 d_E_changed_19 d_E_changed_20 d_E_changed_22 d_E_changed_25 hout (Nat.le_of_ble_eq_true rfl) (Nat.le_of_ble_eq_true rfl) (Nat.le_of_ble_eq_true rfl) (Nat.le_of_ble_eq_true rfl) hlocks (⟨Or.inl ⟨rfl, fun h => h.2.elim c_8 c_13⟩, rfl⟩) (Nat.le_of_ble_eq_true rfl) (Nat.le_of_ble_eq_true rfl)
end
section
theorem wb_tb (n : Nat) : (lN n).toBitVec = BitVec.ofNat 64 n := rfl
theorem wb_inj {a b : Int64} (h : a.toBitVec = b.toBitVec) : a = b := Int64.toBitVec_inj.mp h
theorem wb_tn {n : Nat} (h : n < 2 ^ 64) : (lN n).toBitVec.toNat = n := by rw [wb_tb, BitVec.toNat_ofNat, Nat.mod_eq_of_lt h]
theorem wb_of (x : Int64) : ∃ n, n < 2 ^ 64 ∧ x = lN n := ⟨x.toBitVec.toNat, x.toBitVec.isLt, wb_inj (by rw [wb_tb]; simp)⟩
theorem wb_of32 (x : Int32) : ∃ n, n < 2 ^ 32 ∧ x = nI n := ⟨x.toBitVec.toNat, x.toBitVec.isLt, Int32.toBitVec_inj.mp (by show _ = BitVec.ofNat 32 _; simp)⟩
theorem wb_c : ∀ k, k < 64 → ((nI k).toInt64 &&& 63) = lN k := by decide +kernel
theorem wb_cu : ∀ k, k < 64 → ((nI k).toInt64.toUInt64 &&& Int64.toUInt64 63) = UInt64.ofNat k := by decide +kernel
theorem wb_sm : ∀ k, k < 64 → (BitVec.ofNat 64 k).smod 64 = BitVec.ofNat 64 k := by decide +kernel
theorem wb_pw {a b : Nat} (h : a ≤ b) : 2 ^ b = 2 ^ a * 2 ^ (b - a) := by rw [← Nat.pow_add]; congr 1; omega
theorem wb_lt2 {a b : Nat} (h : a < b) : 2 ^ a < 2 ^ b := Nat.pow_lt_pow_right (by decide) h
theorem wb_mod (n : Nat) : lN n = lN (n % 2 ^ 64) := wb_inj (by rw [wb_tb, wb_tb]; apply BitVec.eq_of_toNat_eq; rw [BitVec.toNat_ofNat, BitVec.toNat_ofNat, Nat.mod_mod])
theorem wb_shr {n k : Nat} (hn : n < 2 ^ 64) (hk : k < 64) : ((lN n).toUInt64 >>> ((nI k).toInt64.toUInt64 &&& Int64.toUInt64 63)).toInt64 = lN (n / 2 ^ k) := by
  rw [wb_cu k hk]
  apply wb_inj
  apply BitVec.eq_of_toNat_eq
  show ((lN n).toUInt64 >>> UInt64.ofNat k).toNat = (BitVec.ofNat 64 _).toNat
  have h1 : (UInt64.ofNat k).toNat = k := by
    show (BitVec.ofNat 64 k).toNat = k
    rw [BitVec.toNat_ofNat, Nat.mod_eq_of_lt (by omega)]
  have h2 : (lN n).toUInt64.toNat = n := wb_tn hn
  rw [UInt64.toNat_shiftRight, h1, h2, Nat.mod_eq_of_lt hk, Nat.shiftRight_eq_div_pow, BitVec.toNat_ofNat, Nat.mod_eq_of_lt (Nat.lt_of_le_of_lt (Nat.div_le_self _ _) hn)]
def eCnt (P : Nat → Bool) : Nat → Nat
  | 0 => 0
  | k + 1 => eCnt P k + (if P k = true then 1 else 0)
theorem eCnt_le (P : Nat → Bool) : ∀ k, eCnt P k ≤ k := by
  intro k
  induction k with
  | zero => exact Nat.le_refl 0
  | succ k ih =>
    show eCnt P k + (if P k = true then 1 else 0) ≤ k + 1
    by_cases h : P k = true
    · rw [if_pos h]; omega
    · rw [if_neg h]; omega
theorem eCnt_pos {P : Nat → Bool} {k : Nat} (h : P k = true) : eCnt P (k + 1) = eCnt P k + 1 := by
  show eCnt P k + (if P k = true then 1 else 0) = _
  rw [if_pos h]
theorem eCnt_neg {P : Nat → Bool} {k : Nat} (h : ¬ P k = true) : eCnt P (k + 1) = eCnt P k := by
  show eCnt P k + (if P k = true then 1 else 0) = _
  rw [if_neg h]
  rfl
/-- the spare tool with the least length so far -/
def eNx (P : Nat → Bool) (len : Nat → Int32) : Nat → Int32 × Int32
  | 0 => (-1, 1000001)
  | k + 1 => if P k = true ∧ len k < (eNx P len k).2 then (nI k, len k) else eNx P len k
theorem eNx_pos {P : Nat → Bool} {len : Nat → Int32} {k : Nat} (h : P k = true) (h2 : len k < (eNx P len k).2) : eNx P len (k + 1) = (nI k, len k) := by
  show (if P k = true ∧ len k < (eNx P len k).2 then (nI k, len k) else eNx P len k) = _
  rw [if_pos ⟨h, h2⟩]
theorem eNx_neg {P : Nat → Bool} {len : Nat → Int32} {k : Nat} (h : ¬ (P k = true ∧ len k < (eNx P len k).2)) : eNx P len (k + 1) = eNx P len k := by
  show (if P k = true ∧ len k < (eNx P len k).2 then (nI k, len k) else eNx P len k) = _
  rw [if_neg h]
theorem eNx_in (P : Nat → Bool) (len : Nat → Int32) : ∀ k, (eNx P len k).1 = -1 ∨ ∃ t, t < k ∧ P t = true ∧ (eNx P len k).1 = nI t := by
  intro k
  induction k with
  | zero => exact Or.inl rfl
  | succ k ih =>
    by_cases h : P k = true ∧ len k < (eNx P len k).2
    · rw [eNx_pos h.1 h.2]
      exact Or.inr ⟨k, Nat.lt_succ_self k, h.1, rfl⟩
    · rw [eNx_neg h]
      rcases ih with q | ⟨t, h1, h2, h3⟩
      · exact Or.inl q
      · exact Or.inr ⟨t, Nat.lt_succ_of_lt h1, h2, h3⟩
/-- tool t is a spare one of sort i -/
def eSp (I : Nat → Nat → Int32) (J : Nat → Nat → Int64) (si : Nat → Nat) (tc : Nat) (q : Int32) (t : Nat) : Bool := decide (t < tc ∧ nI (si t) = q ∧ I 7 t = 0 ∧ I 8 t = 0 ∧ J 1 t = 0)
def eSh (z : Int64) (k : Int32) : Int64 := (z.toUInt64 >>> (k.toInt64.toUInt64 &&& Int64.toUInt64 63)).toInt64
def eMx1 (z : Int64) : Int64 := (z ^^^ eSh z 30) * (-4658895280553007687)
def eMx2 (z : Int64) : Int64 := (z ^^^ eSh z 27) * (-7723592293110705685)
def eMx3 (z : Int64) : Int64 := z ^^^ eSh z 31
def eMix (seed : Int64) (so k : Int32) : Int64 := eMx3 (eMx2 (eMx1 (seed + (4 * k.toInt64 + so.toInt64 + 1) * (-7046029254386353131))))
/-- order t is due -/
def eDu (I : Nat → Nat → Int32) (oc : Nat) (q b : Int32) (t : Nat) : Bool := decide (t < oc ∧ I 13 t = 0 ∧ I 11 t = q ∧ I 12 t < b)
def eOp (I : Nat → Nat → Int32) (oc : Nat) (t : Nat) : Bool := decide (t < oc ∧ I 13 t = 0)
/-- the marks when the due ones below k are done -/
def eCl (I : Nat → Nat → Int32) (oc : Nat) (q b : Int32) : Nat → Nat → Nat → Int32
  | 0 => I
  | k + 1 => if eDu I oc q b k = true then up2 (eCl I oc q b k) 13 k 1 else eCl I oc q b k
theorem eCl_ne {I : Nat → Nat → Int32} {oc : Nat} {q b : Int32} : ∀ {k a j : Nat}, (a ≠ 13 ∨ k ≤ j) → eCl I oc q b k a j = I a j := by
  intro k
  induction k with
  | zero => intro a j _; rfl
  | succ k ih =>
    intro a j h
    show (if eDu I oc q b k = true then up2 (eCl I oc q b k) 13 k 1 else eCl I oc q b k) a j = _
    by_cases hd : eDu I oc q b k = true
    · rw [if_pos hd, up2_ne _ _ (by omega)]
      exact ih (by omega)
    · rw [if_neg hd]
      exact ih (by omega)
/-- the thickness from its highest bit down: n bits are left -/
def eTh (sq : Int64) (w : Int32) : Nat → Int32 → Int32
  | 0, x => x
  | n + 1, x => if sq < (x + nI (2 ^ n)).toInt64 * w.toInt64 * ((x + nI (2 ^ n)).toInt64 * w.toInt64) then eTh sq w n x else eTh sq w n (x + nI (2 ^ n))
end
section
set_option maxHeartbeats 4000000 in
set_option maxRecDepth 100000 in
theorem c_E_about (l : Launch) (hlt : l.stackTraces = false) (D : va_G) (dA : Nat → ClassId) (ad : Nat → Nat) (G : mG) (sz : Nat) (I : Nat → Nat → Int32) (J : Nat → Nat → Int64) (F : Nat → Nat → Nat → Int32) (si : Nat → Nat) (tc oc : Nat) (G0 : mG) (hG : G = gE dA ad I J F si tc oc G0) (ht : tc ≤ 12) (hs : ∀ i, i < tc → si i < 4) (p0 p1 : Int32) : vx_Met l y_E_about (.code y_E_about b_E_about 4 (some .long) :: mBig) ({ frames := 7, cells := 2, slots := 12, locals := 104 }) (mPc [.ref (ad 0), .int p0, .int p1] D mCl (mTys dA) mTx ad G sz) (mQl (fun (rv : Int64) (u : mU) => (∃ i, i < tc ∧ p0 = nI i ∧ ((p1 = 0 ∧ rv = J 1 i) ∨ (p1 = 1 ∧ rv = (I 5 i).toInt64) ∨ (p1 = 2 ∧ rv = (nI (si i)).toInt64) ∨ (p1 = 3 ∧ rv = ((if I 7 i = 0 then 0 else 1) + (if J 0 (si i) < J 1 i then 2 else 0) + (if I 8 i = 0 then 0 else 4) : Int32).toInt64) ∨ (p1 = 4 ∧ rv = J 2 i) ∨ (p1 = 5 ∧ rv = J 3 i))) ∧ u = (ad, G)) D mCl ad G sz) (mXC (fun (E : String) (u : mU) => (E = "java/lang/IndexOutOfBoundsException" ∧ ¬ ((∃ i, i < tc ∧ p0 = nI i) ∧ ¬ (p1.toInt < 0 ∨ 5 < p1.toInt))) ∧ u = (ad, G)) D mCl ad G sz) 2 12 (mA ad G sz) := by
  refine vx_ofW (cc := b_E_about) (maxL := 4) (ret := (some .long)) (by decide) rfl ?_
  intro p e s m args below meth c s₁ B hml hout hv
  obtain ⟨rfl, hsz, hw0, hC⟩ := hv
  have hx := B.exec
  have hb := B.bytes
  have hr := B.returns
  have hts := atoms_spec (ws := .code y_E_about b_E_about 4 (some .long) :: mBig) B.pre
  have hT : ∀ w ∈ mBig, w.before _ s = true := fun w h => hts w (List.mem_cons_of_mem _ h)
  have hown : s.vm.findClass "EdgeWear" = some m.cls := findClass_of_methodNamed B.named
  have hlocks := B.notSynchronized
  subst hsz
  have hm := mS.start hw0
  have hA : ∀ q : Nat, s.heap.size ≤ q → mA ad G s.heap.size q := fun q h => Or.inr h
  have hl := lv_entry ([.ref (ad 0), .int p0, .int p1]) (n := 4) (Nat.le_of_ble_eq_true rfl)
  rw [lg_entry_eq]
  generalize (lg_sl ([.ref (ad 0), .int p0, .int p1]) ++ List.replicate (4 - (lg_sl ([.ref (ad 0), .int p0, .int p1])).length) Slot.unset).toArray = ls at hl ⊢
  have hl : lv_has ls 4 [(0, .ref (ad 0)), (1, .int p0), (2, .int p1)] := hl
  refine lv_aload_n hx hb d_E_about_0 rfl (lv_at hl 0 rfl) ?_
  refine lv_iload_n hx hb d_E_about_1 rfl (lv_at hl 1 rfl) ?_
  refine x_roq (x_runV (As := [.int p0]) (rest := []) ⟨hx, hb, hml, hown, hts⟩ (c_E_toolAt l hlt D dA ad G s.heap.size I J F si tc oc G0 hG ht p0) (cwV 1 hts (gV k_323 k_320 k_322 ks_2 k_1) rfl rfl rfl (by decide +kernel) ⟨Nat.le_of_ble_eq_true rfl, Nat.le_of_ble_eq_true rfl⟩) hm hA hC 0 rfl ((congrFun hG 0).trans gE_c0) rfl rfl rfl hl.1 rfl (Nat.le_of_ble_eq_true rfl) d_E_about_2 ⟨Nat.le_of_ble_eq_true rfl, Nat.le_of_ble_eq_true rfl⟩) hm hA (fun E ce q9 H locs w_2 hm h7 h8 h9 => ?_) (fun r_1 H locs w_2 hm => ?_)
  · exact m_out hout hlocks hm h7 h8 h9 (by
      obtain ⟨rfl, hq⟩ := w_2
      exact ⟨⟨rfl, fun h => hq h.1⟩, rfl⟩) (by decide) (by decide)
  · obtain ⟨i, hi, epi, er⟩ := w_2
    subst er
    rw [show va_rf (some (ad (100 + i))) = .ref (ad (100 + i)) from rfl]
    refine lv_astore_n (lv' := [(3, .ref (ad (100 + i))), (0, .ref (ad 0)), (1, .int p0), (2, .int p1)]) hx hb d_E_about_5 rfl hl (by decide) rfl (fun ls hl => ?_)
    refine lv_iload_n hx hb d_E_about_6 rfl (lv_at hl 3 rfl) ?_
    have hsi := hs i hi
    rcases sw6 p1 with hsw | hsw | hsw | hsw | hsw | hsw | hsw
    · refine lv_tableIn (tgt := 44) hx hb d_E_about_7 (by rw [hsw]; decide) (by rw [hsw]; decide) (by rw [hsw]; rfl) (by decide) ?_
      refine lv_aload_n hx hb d_E_about_44 rfl (lv_at hl 0 rfl) ?_
      refine m_get (v := .long (J 1 i)) (C := R_To) (T := T_To) (N := 9) hx hb hT in_To hown hC.1 hm (100 + i) rfl ((congrFun hG (100 + i)).trans (gE_to hi ht)) rfl 4 (by decide) (hT _ k_264) (fun _ h9 => h9) rfl d_E_about_45 ?_
      refine W.widen (k := 2) (n := 12) (by omega) (by omega) ?_
      refine vx_ret ?_
      exact m_lret (v := J 1 i) hx hb hr hm (⟨⟨i, hi, epi, Or.inl ⟨hsw, rfl⟩⟩, rfl⟩) d_E_about_48 hlocks
    · refine lv_tableIn (tgt := 49) hx hb d_E_about_7 (by rw [hsw]; decide) (by rw [hsw]; decide) (by rw [hsw]; rfl) (by decide) ?_
      refine lv_aload_n hx hb d_E_about_49 rfl (lv_at hl 0 rfl) ?_
      refine m_get (v := .int (I 5 i)) (C := R_To) (T := T_To) (N := 9) hx hb hT in_To hown hC.1 hm (100 + i) rfl ((congrFun hG (100 + i)).trans (gE_to hi ht)) rfl 3 (by decide) (hT _ k_262) (fun _ h9 => h9) rfl d_E_about_50 ?_
      refine lv_i2l hx hb d_E_about_53 rfl ?_
      refine lv_topl (fun x_3 ex_3 => ?_)
      refine W.widen (k := 2) (n := 12) (by omega) (by omega) ?_
      refine vx_ret ?_
      exact m_lret (v := x_3) hx hb hr hm (⟨⟨i, hi, epi, Or.inr (Or.inl ⟨hsw, by rw [ex_3]⟩)⟩, rfl⟩) d_E_about_54 hlocks
    · refine lv_tableIn (tgt := 55) hx hb d_E_about_7 (by rw [hsw]; decide) (by rw [hsw]; decide) (by rw [hsw]; rfl) (by decide) ?_
      refine lv_aload_n hx hb d_E_about_55 rfl (lv_at hl 0 rfl) ?_
      refine m_get (v := .ref (ad (10 + si i))) (C := R_To) (T := T_To) (N := 9) hx hb hT in_To hown hC.1 hm (100 + i) rfl ((congrFun hG (100 + i)).trans (gE_to hi ht)) rfl 0 (by decide) (hT _ k_257) (fun _ h9 => h9) rfl d_E_about_56 ?_
      refine m_get (v := .int (nI (si i))) (C := R_So) (T := T_So) (N := 6) hx hb hT in_So hown hC.1 hm (10 + si i) rfl ((congrFun hG (10 + (si i))).trans (gE_so hsi)) rfl 0 (by decide) (hT _ k_34) (fun _ h9 => h9) rfl d_E_about_59 ?_
      refine lv_i2l hx hb d_E_about_62 rfl ?_
      refine lv_topl (fun x_4 ex_4 => ?_)
      refine W.widen (k := 2) (n := 12) (by omega) (by omega) ?_
      refine vx_ret ?_
      exact m_lret (v := x_4) hx hb hr hm (⟨⟨i, hi, epi, Or.inr (Or.inr (Or.inl ⟨hsw, by rw [ex_4]⟩))⟩, rfl⟩) d_E_about_63 hlocks
    · refine lv_tableIn (tgt := 64) hx hb d_E_about_7 (by rw [hsw]; decide) (by rw [hsw]; decide) (by rw [hsw]; rfl) (by decide) ?_
      refine lv_aload_n hx hb d_E_about_64 rfl (lv_at hl 0 rfl) ?_
      refine m_roi (m_runV (As := []) (rest := []) ⟨hx, hb, hml, hown, hts⟩ (c_To_marks l D dA ad G H.size (100 + i) (10 + si i) (200 + i) (I 6 i) (I 5 i) (J 1 i) (J 2 i) (J 3 i) (I 7 i) (I 8 i) (20 + si i) (nI (si i)) (I 2 (si i)) (J 0 (si i)) (I 3 (si i)) (I 4 (si i)) ((congrFun hG (100 + i)).trans (gE_to hi ht)) ((congrFun hG (10 + (si i))).trans (gE_so hsi))) (cwV 0 hts (gV k_361 k_358 k_359 k_360 k_11) rfl rfl rfl (by decide +kernel) ⟨Nat.le_of_ble_eq_true rfl, Nat.le_of_ble_eq_true rfl⟩) hm hA hC (100 + i) rfl ((congrFun hG (100 + i)).trans (gE_to hi ht)) rfl rfl rfl hl.1 rfl (Nat.le_of_ble_eq_true rfl) d_E_about_65 ⟨Nat.le_of_ble_eq_true rfl, Nat.le_of_ble_eq_true rfl⟩) hm hA (fun r_5 H locs w_6 hm => ?_)
      refine lv_i2l hx hb d_E_about_68 rfl ?_
      refine lv_topl (fun x_7 ex_7 => ?_)
      refine W.widen (k := 2) (n := 12) (by omega) (by omega) ?_
      refine vx_ret ?_
      exact m_lret (v := x_7) hx hb hr hm (⟨⟨i, hi, epi, Or.inr (Or.inr (Or.inr (Or.inl ⟨hsw, by rw [ex_7, w_6]⟩)))⟩, rfl⟩) d_E_about_69 hlocks
    · refine lv_tableIn (tgt := 70) hx hb d_E_about_7 (by rw [hsw]; decide) (by rw [hsw]; decide) (by rw [hsw]; rfl) (by decide) ?_
      refine lv_aload_n hx hb d_E_about_70 rfl (lv_at hl 0 rfl) ?_
      refine m_get (v := .long (J 2 i)) (C := R_To) (T := T_To) (N := 9) hx hb hT in_To hown hC.1 hm (100 + i) rfl ((congrFun hG (100 + i)).trans (gE_to hi ht)) rfl 5 (by decide) (hT _ k_266) (fun _ h9 => h9) rfl d_E_about_71 ?_
      refine W.widen (k := 2) (n := 12) (by omega) (by omega) ?_
      refine vx_ret ?_
      exact m_lret (v := J 2 i) hx hb hr hm (⟨⟨i, hi, epi, Or.inr (Or.inr (Or.inr (Or.inr (Or.inl ⟨hsw, rfl⟩))))⟩, rfl⟩) d_E_about_74 hlocks
    · refine lv_tableIn (tgt := 75) hx hb d_E_about_7 (by rw [hsw]; decide) (by rw [hsw]; decide) (by rw [hsw]; rfl) (by decide) ?_
      refine lv_aload_n hx hb d_E_about_75 rfl (lv_at hl 0 rfl) ?_
      refine m_get (v := .long (J 3 i)) (C := R_To) (T := T_To) (N := 9) hx hb hT in_To hown hC.1 hm (100 + i) rfl ((congrFun hG (100 + i)).trans (gE_to hi ht)) rfl 6 (by decide) (hT _ k_268) (fun _ h9 => h9) rfl d_E_about_76 ?_
      refine W.widen (k := 2) (n := 12) (by omega) (by omega) ?_
      refine vx_ret ?_
      exact m_lret (v := J 3 i) hx hb hr hm (⟨⟨i, hi, epi, Or.inr (Or.inr (Or.inr (Or.inr (Or.inr (⟨hsw, rfl⟩)))))⟩, rfl⟩) d_E_about_79 hlocks
    · refine lv_tableOut (tgt := 80) hx hb d_E_about_7 hsw (by decide) ?_
      exact m_throwS (cls := "java/lang/IndexOutOfBoundsException") (text := "no such what") (names := ["java/lang/RuntimeException", "java/lang/Exception"]) (tx := mTx) hx hb hlt hown (by decide +kernel) (by decide +kernel) (hT _ k_133) (hT _ k_8) (by decide +kernel) hC (at_IndexOutOfBoundsException hT hC.2.2.2) (good_IndexOutOfBoundsException) hm (hl.1.trans hml.symm) d_E_about_80 d_E_about_83 d_E_about_84 d_E_about_86 d_E_about_89 hout (Nat.le_of_ble_eq_true rfl) (Nat.le_of_ble_eq_true rfl) (Nat.le_of_ble_eq_true rfl) (Nat.le_of_ble_eq_true rfl) hlocks (⟨⟨rfl, fun h => h.2 hsw⟩, rfl⟩) (Nat.le_of_ble_eq_true rfl) (Nat.le_of_ble_eq_true rfl)

set_option maxHeartbeats 4000000 in
set_option maxRecDepth 100000 in
theorem c_E_spare (l : Launch) (hlt : l.stackTraces = false) (D : va_G) (dA : Nat → ClassId) (ad : Nat → Nat) (G : mG) (sz : Nat) (I : Nat → Nat → Int32) (J : Nat → Nat → Int64) (F : Nat → Nat → Nat → Int32) (si : Nat → Nat) (tc oc : Nat) (G0 : mG) (hG : G = gE dA ad I J F si tc oc G0) (ht : tc ≤ 12) (hs : ∀ i, i < tc → si i < 4) (p0 : Int32) : vx_Met l y_E_spare (.code y_E_spare b_E_spare 6 (some .int) :: mBig) ({ frames := 7, cells := 1, slots := 6, locals := 104 }) (mPc [.ref (ad 0), .int p0] D mCl (mTys dA) mTx ad G sz) (mQi (fun (rv : Int32) (u : mU) => (∃ i, i < 4 ∧ p0 = nI i ∧ rv = nI (eCnt (eSp I J si tc (nI i)) 12)) ∧ u = (ad, G)) D mCl ad G sz) (mXC (fun (E : String) (u : mU) => (E = "java/lang/IndexOutOfBoundsException" ∧ ¬ ∃ i, i < 4 ∧ p0 = nI i) ∧ u = (ad, G)) D mCl ad G sz) 1 6 (mA ad G sz) := by
  refine vx_ofW (cc := b_E_spare) (maxL := 6) (ret := (some .int)) (by decide) rfl ?_
  intro p e s m args below meth c s₁ B hml hout hv
  obtain ⟨rfl, hsz, hw0, hC⟩ := hv
  have hx := B.exec
  have hb := B.bytes
  have hr := B.returns
  have hts := atoms_spec (ws := .code y_E_spare b_E_spare 6 (some .int) :: mBig) B.pre
  have hT : ∀ w ∈ mBig, w.before _ s = true := fun w h => hts w (List.mem_cons_of_mem _ h)
  have hown : s.vm.findClass "EdgeWear" = some m.cls := findClass_of_methodNamed B.named
  have hlocks := B.notSynchronized
  subst hsz
  have hm := mS.start hw0
  have hA : ∀ q : Nat, s.heap.size ≤ q → mA ad G s.heap.size q := fun q h => Or.inr h
  have hl := lv_entry ([.ref (ad 0), .int p0]) (n := 6) (Nat.le_of_ble_eq_true rfl)
  rw [lg_entry_eq]
  generalize (lg_sl ([.ref (ad 0), .int p0]) ++ List.replicate (6 - (lg_sl ([.ref (ad 0), .int p0])).length) Slot.unset).toArray = ls at hl ⊢
  have hl : lv_has ls 6 [(0, .ref (ad 0)), (1, .int p0)] := hl
  refine lv_aload_n hx hb d_E_spare_0 rfl (lv_at hl 0 rfl) ?_
  refine lv_iload_n hx hb d_E_spare_1 rfl (lv_at hl 1 rfl) ?_
  refine x_roq (x_runV (As := [.int p0]) (rest := []) ⟨hx, hb, hml, hown, hts⟩ (c_E_sortAt l hlt D dA ad G s.heap.size I J F si tc oc G0 hG ht p0) (cwV 1 hts (gV k_132 k_129 k_131 ks_0 k_1) rfl rfl rfl (by decide +kernel) ⟨Nat.le_of_ble_eq_true rfl, Nat.le_of_ble_eq_true rfl⟩) hm hA hC 0 rfl ((congrFun hG 0).trans gE_c0) rfl rfl rfl hl.1 rfl (Nat.le_of_ble_eq_true rfl) d_E_spare_2 ⟨Nat.le_of_ble_eq_true rfl, Nat.le_of_ble_eq_true rfl⟩) hm hA (fun E ce q9 H locs w_2 hm h7 h8 h9 => ?_) (fun r_1 H locs w_2 hm => ?_)
  · exact m_out hout hlocks hm h7 h8 h9 (by
      obtain ⟨rfl, hq⟩ := w_2
      exact ⟨⟨rfl, hq⟩, rfl⟩) (by decide) (by decide)
  · obtain ⟨i, hi, epi, er⟩ := w_2
    subst er
    rw [show va_rf (some (ad (10 + i))) = .ref (ad (10 + i)) from rfl]
    refine m_get (v := .int (nI i)) (C := R_So) (T := T_So) (N := 6) hx hb hT in_So hown hC.1 hm (10 + i) rfl ((congrFun hG (10 + i)).trans (gE_so hi)) rfl 0 (by decide) (hT _ k_34) (fun _ h9 => h9) rfl d_E_spare_5 ?_
    refine lv_istore_n (lv' := [(2, .int (nI i)), (0, .ref (ad 0)), (1, .int p0)]) hx hb d_E_spare_8 rfl hl (by decide) rfl (fun ls hl => ?_)
    refine lv_iconst (v := 0) hx hb d_E_spare_9 (by decide) ?_
    refine lv_istore_n (lv' := [(3, .int 0), (2, .int (nI i)), (0, .ref (ad 0)), (1, .int p0)]) hx hb d_E_spare_10 rfl hl (by decide) rfl (fun ls hl => ?_)
    refine lv_iconst (v := 0) hx hb d_E_spare_11 (by decide) ?_
    refine lv_istore (lv' := [(4, .int 0), (3, .int 0), (2, .int (nI i)), (0, .ref (ad 0)), (1, .int p0)]) hx hb d_E_spare_12 hl (by decide) rfl (fun ls hl => ?_)
    refine m_loopH (nL := 6) (head := 14) (fun (q9 : Nat) => fun (x : Nat) => match x with | j => q9 + j = 13 ∧ j ≤ 12 ∧ True) (fun (x : Nat) => match x with | j => [(0, .ref (ad 0)), (2, .int (nI i)), (3, .int (nI (eCnt (eSp I J si tc (nI i)) j))), (4, .int (nI j))]) (fun _ => G) (fun j h => by have h1 := h.1; have h2 := h.2.1; omega) (fun q9 x ls H locs hI hl hm ih14 => ?_) (12) (0) (⟨by omega, by omega, trivial⟩) (lv_sub hl [3, 2, 1, 0] rfl) hm
    obtain ⟨j, ej⟩ : ∃ z, z = x := ⟨_, rfl⟩
    subst ej
    replace hI : (fun (q9 : Nat) => q9 + j = 13 ∧ j ≤ 12 ∧ True) (q9 + 1) := hI
    have hl : lv_has ls 6 [(0, .ref (ad 0)), (2, .int (nI i)), (3, .int (nI (eCnt (eSp I J si tc (nI i)) j))), (4, .int (nI j))] := hl
    refine lv_iload hx hb d_E_spare_14 (lv_at hl 3 rfl) ?_
    refine lv_aload_n hx hb d_E_spare_16 rfl (lv_at hl 0 rfl) ?_
    refine m_get (v := .ref (ad 3)) (C := R_E) (T := T_E) (N := 8) hx hb hT in_E hown hC.1 hm 0 rfl ((congrFun hG 0).trans gE_c0) rfl 3 (by decide) (hT _ k_90) (fun _ h9 => h9) rfl d_E_spare_17 ?_
    refine m_alen (v := 12) hx hb hC.1 hm 3 rfl 4 ((congrFun hG 3).trans gE_c3) rfl rfl d_E_spare_20 ?_
    refine lv_icmp_ge (tgt := 56) hx hb d_E_spare_21 (by decide) (fun c_21 => ?_) (fun c_21 => ?_)
    · have hge : j = 12 := by
        have := (nI_leI (a := 12) (by decide) (by omega)).mp c_21
        omega
      refine lv_iload_n hx hb d_E_spare_56 rfl (lv_at hl 2 rfl) ?_
      refine vx_ret ?_
      exact m_iret (v := nI (eCnt (eSp I J si tc (nI i)) j)) hx hb hr hm (⟨⟨i, hi, epi, by rw [hge]⟩, rfl⟩) d_E_spare_57 hlocks
    · have hj12 : j < 12 := (nI_ltI (b := 12) (by omega) (by decide)).mp (Int32.not_le.mp c_21)
      refine lv_aload_n hx hb d_E_spare_24 rfl (lv_at hl 0 rfl) ?_
      refine m_get (v := .ref (ad 3)) (C := R_E) (T := T_E) (N := 8) hx hb hT in_E hown hC.1 hm 0 rfl ((congrFun hG 0).trans gE_c0) rfl 3 (by decide) (hT _ k_90) (fun _ h9 => h9) rfl d_E_spare_25 ?_
      refine lv_iload hx hb d_E_spare_28 (lv_at hl 3 rfl) ?_
      by_cases htc : j < tc
      · have hsi := hs j htc
        refine m_aald (v := .ref (ad (100 + j))) hx hb hC.1 hm 3 rfl 4 ((congrFun hG 3).trans gE_c3) rfl (vp_in_nI (by omega) (by decide)) (by rw [nI_clamp (by omega)]; simp only [htc, if_true]; rfl) d_E_spare_30 ?_
        refine lv_astore (lv' := [(5, .ref (ad (100 + j))), (0, .ref (ad 0)), (2, .int (nI i)), (3, .int (nI (eCnt (eSp I J si tc (nI i)) j))), (4, .int (nI j))]) hx hb d_E_spare_31 hl (by decide) rfl (fun ls hl => ?_)
        refine lv_aload hx hb d_E_spare_33 (lv_at hl 0 rfl) ?_
        refine lv_ifnull hx hb d_E_spare_35 ?_
        refine lv_aload hx hb d_E_spare_38 (lv_at hl 0 rfl) ?_
        refine lv_iload_n hx hb d_E_spare_40 rfl (lv_at hl 2 rfl) ?_
        refine m_roi (m_runV (As := [.int (nI i)]) (rest := []) ⟨hx, hb, hml, hown, hts⟩ (c_To_isSpareOf l D dA ad G H.size (100 + j) (10 + si j) (200 + j) (I 6 j) (I 5 j) (J 1 j) (J 2 j) (J 3 j) (I 7 j) (I 8 j) (20 + si j) (nI (si j)) (I 2 (si j)) (J 0 (si j)) (I 3 (si j)) (I 4 (si j)) (nI i) ((congrFun hG (100 + j)).trans (gE_to htc ht)) ((congrFun hG (10 + (si j))).trans (gE_so hsi))) (cwV 1 hts (gV k_374 k_371 k_372 k_373 k_11) rfl rfl rfl (by decide +kernel) ⟨Nat.le_of_ble_eq_true rfl, Nat.le_of_ble_eq_true rfl⟩) hm hA hC (100 + j) rfl ((congrFun hG (100 + j)).trans (gE_to htc ht)) rfl rfl rfl hl.1 rfl (Nat.le_of_ble_eq_true rfl) d_E_spare_41 ⟨Nat.le_of_ble_eq_true rfl, Nat.le_of_ble_eq_true rfl⟩) hm hA (fun r_3 H locs w_4 hm => ?_)
        refine lv_if_eq (tgt := 50) hx hb d_E_spare_44 (by decide) (fun c_44 => ?_) (fun c_44 => ?_)
        · have hP : ¬ eSp I J si tc (nI i) j = true := fun h => by
            have h8 := of_decide_eq_true h
            have h9 := w_4
            rw [if_pos h8.2] at h9
            rw [h9] at c_44
            exact absurd c_44 (by decide)
          have hl : lv_has ls 6 [(5, .ref (ad (100 + j))), (0, .ref (ad 0)), (2, .int (nI i)), (3, .int (nI (eCnt (eSp I J si tc (nI i)) (j + 1)))), (4, .int (nI j))] := by rw [eCnt_neg hP]; exact hl
          refine lv_iinc (v := nI (j + 1)) (lv' := [(4, .int (nI (j + 1))), (5, .ref (ad (100 + j))), (0, .ref (ad 0)), (2, .int (nI i)), (3, .int (nI (eCnt (eSp I J si tc (nI i)) (j + 1))))]) hx hb d_E_spare_50 hl (k := 4) rfl (nI_1 _) (by decide) rfl (fun ls hl => ?_)
          refine lv_goto (tgt := 14) hx hb d_E_spare_53 (by decide) ?_
          exact ih14 (j + 1) ls H locs (⟨by omega, by omega, trivial⟩) (lv_sub hl [2, 3, 4, 0] rfl) hm
        · refine lv_iinc (v := nI ((eCnt (eSp I J si tc (nI i)) j) + 1)) (lv' := [(3, .int (nI ((eCnt (eSp I J si tc (nI i)) j) + 1))), (5, .ref (ad (100 + j))), (0, .ref (ad 0)), (2, .int (nI i)), (4, .int (nI j))]) hx hb d_E_spare_47 hl (k := 3) rfl (nI_1 _) (by decide) rfl (fun ls hl => ?_)
          have hP : eSp I J si tc (nI i) j = true := decide_eq_true (Classical.byContradiction (fun hq => c_44 (by rw [w_4, if_neg (fun h => hq ⟨htc, h⟩)])))
          have hl : lv_has ls 6 [(3, .int (nI (eCnt (eSp I J si tc (nI i)) (j + 1)))), (5, .ref (ad (100 + j))), (0, .ref (ad 0)), (2, .int (nI i)), (4, .int (nI j))] := by rw [eCnt_pos hP]; exact hl
          refine lv_iinc (v := nI (j + 1)) (lv' := [(4, .int (nI (j + 1))), (3, .int (nI (eCnt (eSp I J si tc (nI i)) (j + 1)))), (5, .ref (ad (100 + j))), (0, .ref (ad 0)), (2, .int (nI i))]) hx hb d_E_spare_50 hl (k := 4) rfl (nI_1 _) (by decide) rfl (fun ls hl => ?_)
          refine lv_goto (tgt := 14) hx hb d_E_spare_53 (by decide) ?_
          exact ih14 (j + 1) ls H locs (⟨by omega, by omega, trivial⟩) (lv_sub hl [3, 4, 1, 0] rfl) hm
      · refine m_aald (v := .null) hx hb hC.1 hm 3 rfl 4 ((congrFun hG 3).trans gE_c3) rfl (vp_in_nI (by omega) (by decide)) (by rw [nI_clamp (by omega)]; simp only [htc, if_false]; rfl) d_E_spare_30 ?_
        refine lv_astoreN (lv' := [(5, .null), (0, .ref (ad 0)), (2, .int (nI i)), (3, .int (nI (eCnt (eSp I J si tc (nI i)) j))), (4, .int (nI j))]) hx hb d_E_spare_31 hl (by decide) rfl (fun ls hl => ?_)
        refine lv_aloadN hx hb d_E_spare_33 (lv_at hl 0 rfl) ?_
        refine lv_ifnullN (tgt := 50) hx hb d_E_spare_35 (by decide) ?_
        have hP : ¬ eSp I J si tc (nI i) j = true := fun h => htc (of_decide_eq_true h).1
        have hl : lv_has ls 6 [(5, .null), (0, .ref (ad 0)), (2, .int (nI i)), (3, .int (nI (eCnt (eSp I J si tc (nI i)) (j + 1)))), (4, .int (nI j))] := by rw [eCnt_neg hP]; exact hl
        refine lv_iinc (v := nI (j + 1)) (lv' := [(4, .int (nI (j + 1))), (5, .null), (0, .ref (ad 0)), (2, .int (nI i)), (3, .int (nI (eCnt (eSp I J si tc (nI i)) (j + 1))))]) hx hb d_E_spare_50 hl (k := 4) rfl (nI_1 _) (by decide) rfl (fun ls hl => ?_)
        refine lv_goto (tgt := 14) hx hb d_E_spare_53 (by decide) ?_
        exact ih14 (j + 1) ls H locs (⟨by omega, by omega, trivial⟩) (lv_sub hl [2, 3, 4, 0] rfl) hm

set_option maxHeartbeats 4000000 in
set_option maxRecDepth 100000 in
theorem c_E_nextSpare (l : Launch) (D : va_G) (dA : Nat → ClassId) (ad : Nat → Nat) (G : mG) (sz : Nat) (I : Nat → Nat → Int32) (J : Nat → Nat → Int64) (F : Nat → Nat → Nat → Int32) (si : Nat → Nat) (tc oc : Nat) (G0 : mG) (hG : G = gE dA ad I J F si tc oc G0) (ht : tc ≤ 12) (hs : ∀ i, i < tc → si i < 4) (p0 : Int32) : Met l y_E_nextSpare (.code y_E_nextSpare b_E_nextSpare 6 (some .int) :: mBig) ({ frames := 1, cells := 0, slots := 0, locals := 21 }) (mPc [.ref (ad 0), .int p0] D mCl (mTys dA) mTx ad G sz) (mQi (fun (rv : Int32) (u : mU) => (rv = (eNx (eSp I J si tc p0) (I 5) 12).1) ∧ u = (ad, G)) D mCl ad G sz) 0 0 (mA ad G sz) := by
  refine Met.ofW (cc := b_E_nextSpare) (maxL := 6) (ret := (some .int)) (by decide) rfl ?_
  intro p e s m args below meth c s₁ B hml hv
  obtain ⟨rfl, hsz, hw0, hC⟩ := hv
  have hx := B.exec
  have hb := B.bytes
  have hr := B.returns
  have hts := atoms_spec (ws := .code y_E_nextSpare b_E_nextSpare 6 (some .int) :: mBig) B.pre
  have hT : ∀ w ∈ mBig, w.before _ s = true := fun w h => hts w (List.mem_cons_of_mem _ h)
  have hown : s.vm.findClass "EdgeWear" = some m.cls := findClass_of_methodNamed B.named
  have hlocks := B.notSynchronized
  subst hsz
  have hm := mS.start hw0
  have hA : ∀ q : Nat, s.heap.size ≤ q → mA ad G s.heap.size q := fun q h => Or.inr h
  have hl := lv_entry ([.ref (ad 0), .int p0]) (n := 6) (Nat.le_of_ble_eq_true rfl)
  rw [lg_entry_eq]
  generalize (lg_sl ([.ref (ad 0), .int p0]) ++ List.replicate (6 - (lg_sl ([.ref (ad 0), .int p0])).length) Slot.unset).toArray = ls at hl ⊢
  have hl : lv_has ls 6 [(0, .ref (ad 0)), (1, .int p0)] := hl
  refine lv_iconst (v := (-1)) hx hb d_E_nextSpare_0 (by decide) ?_
  refine lv_istore_n (lv' := [(2, .int (-1)), (0, .ref (ad 0)), (1, .int p0)]) hx hb d_E_nextSpare_1 rfl hl (by decide) rfl (fun ls hl => ?_)
  refine lv_ldcw (v := 1000001) hx hb hown (hT _ k_386) d_E_nextSpare_2 ?_
  refine lv_istore_n (lv' := [(3, .int 1000001), (2, .int (-1)), (0, .ref (ad 0)), (1, .int p0)]) hx hb d_E_nextSpare_5 rfl hl (by decide) rfl (fun ls hl => ?_)
  refine lv_iconst (v := 0) hx hb d_E_nextSpare_6 (by decide) ?_
  refine lv_istore (lv' := [(4, .int 0), (3, .int 1000001), (2, .int (-1)), (0, .ref (ad 0)), (1, .int p0)]) hx hb d_E_nextSpare_7 hl (by decide) rfl (fun ls hl => ?_)
  refine m_loopH (nL := 6) (head := 9) (fun (q9 : Nat) => fun (x : Nat) => match x with | j => q9 + j = 13 ∧ j ≤ 12 ∧ True) (fun (x : Nat) => match x with | j => [(0, .ref (ad 0)), (1, .int p0), (2, .int ((eNx (eSp I J si tc p0) (I 5) j).1)), (3, .int ((eNx (eSp I J si tc p0) (I 5) j).2)), (4, .int (nI j))]) (fun _ => G) (fun j h => by have h1 := h.1; have h2 := h.2.1; omega) (fun q9 x ls H locs hI hl hm ih9 => ?_) (12) (0) (⟨by omega, by omega, trivial⟩) (lv_sub hl [3, 4, 2, 1, 0] rfl) hm
  obtain ⟨j, ej⟩ : ∃ z, z = x := ⟨_, rfl⟩
  subst ej
  replace hI : (fun (q9 : Nat) => q9 + j = 13 ∧ j ≤ 12 ∧ True) (q9 + 1) := hI
  have hl : lv_has ls 6 [(0, .ref (ad 0)), (1, .int p0), (2, .int ((eNx (eSp I J si tc p0) (I 5) j).1)), (3, .int ((eNx (eSp I J si tc p0) (I 5) j).2)), (4, .int (nI j))] := hl
  refine lv_iload hx hb d_E_nextSpare_9 (lv_at hl 4 rfl) ?_
  refine lv_aload_n hx hb d_E_nextSpare_11 rfl (lv_at hl 0 rfl) ?_
  refine m_get (v := .ref (ad 3)) (C := R_E) (T := T_E) (N := 8) hx hb hT in_E hown hC.1 hm 0 rfl ((congrFun hG 0).trans gE_c0) rfl 3 (by decide) (hT _ k_90) (fun _ h9 => h9) rfl d_E_nextSpare_12 ?_
  refine m_alen (v := 12) hx hb hC.1 hm 3 rfl 4 ((congrFun hG 3).trans gE_c3) rfl rfl d_E_nextSpare_15 ?_
  refine lv_icmp_ge (tgt := 66) hx hb d_E_nextSpare_16 (by decide) (fun c_16 => ?_) (fun c_16 => ?_)
  · have hge : j = 12 := by
      have := (nI_leI (a := 12) (by decide) (by omega)).mp c_16
      omega
    refine lv_iload_n hx hb d_E_nextSpare_66 rfl (lv_at hl 2 rfl) ?_
    exact m_iret (v := (eNx (eSp I J si tc p0) (I 5) j).1) hx hb hr hm (⟨by rw [hge], rfl⟩) d_E_nextSpare_67 hlocks
  · have hj12 : j < 12 := (nI_ltI (b := 12) (by omega) (by decide)).mp (Int32.not_le.mp c_16)
    refine lv_aload_n hx hb d_E_nextSpare_19 rfl (lv_at hl 0 rfl) ?_
    refine m_get (v := .ref (ad 3)) (C := R_E) (T := T_E) (N := 8) hx hb hT in_E hown hC.1 hm 0 rfl ((congrFun hG 0).trans gE_c0) rfl 3 (by decide) (hT _ k_90) (fun _ h9 => h9) rfl d_E_nextSpare_20 ?_
    refine lv_iload hx hb d_E_nextSpare_23 (lv_at hl 4 rfl) ?_
    by_cases htc : j < tc
    · have hsi := hs j htc
      refine m_aald (v := .ref (ad (100 + j))) hx hb hC.1 hm 3 rfl 4 ((congrFun hG 3).trans gE_c3) rfl (vp_in_nI (by omega) (by decide)) (by rw [nI_clamp (by omega)]; simp only [htc, if_true]; rfl) d_E_nextSpare_25 ?_
      refine lv_astore (lv' := [(5, .ref (ad (100 + j))), (0, .ref (ad 0)), (1, .int p0), (2, .int ((eNx (eSp I J si tc p0) (I 5) j).1)), (3, .int ((eNx (eSp I J si tc p0) (I 5) j).2)), (4, .int (nI j))]) hx hb d_E_nextSpare_26 hl (by decide) rfl (fun ls hl => ?_)
      refine lv_aload hx hb d_E_nextSpare_28 (lv_at hl 0 rfl) ?_
      refine lv_ifnull hx hb d_E_nextSpare_30 ?_
      refine lv_aload hx hb d_E_nextSpare_33 (lv_at hl 0 rfl) ?_
      refine lv_iload_n hx hb d_E_nextSpare_35 rfl (lv_at hl 2 rfl) ?_
      refine m_roi (m_runV (As := [.int p0]) (rest := []) ⟨hx, hb, hml, hown, hts⟩ (c_To_isSpareOf l D dA ad G H.size (100 + j) (10 + si j) (200 + j) (I 6 j) (I 5 j) (J 1 j) (J 2 j) (J 3 j) (I 7 j) (I 8 j) (20 + si j) (nI (si j)) (I 2 (si j)) (J 0 (si j)) (I 3 (si j)) (I 4 (si j)) p0 ((congrFun hG (100 + j)).trans (gE_to htc ht)) ((congrFun hG (10 + (si j))).trans (gE_so hsi))) (cwV 1 hts (gV k_374 k_371 k_372 k_373 k_11) rfl rfl rfl (by decide +kernel) ⟨Nat.le_of_ble_eq_true rfl, Nat.le_of_ble_eq_true rfl⟩) hm hA hC (100 + j) rfl ((congrFun hG (100 + j)).trans (gE_to htc ht)) rfl rfl rfl hl.1 rfl (Nat.le_of_ble_eq_true rfl) d_E_nextSpare_36 ⟨Nat.le_of_ble_eq_true rfl, Nat.le_of_ble_eq_true rfl⟩) hm hA (fun r_1 H locs w_2 hm => ?_)
      refine lv_if_eq (tgt := 60) hx hb d_E_nextSpare_39 (by decide) (fun c_39 => ?_) (fun c_39 => ?_)
      · have hP : ¬ eSp I J si tc p0 j = true := fun h => by
          have h8 := of_decide_eq_true h
          have h9 := w_2
          rw [if_pos h8.2] at h9
          rw [h9] at c_39
          exact absurd c_39 (by decide)
        have hl : lv_has ls 6 [(5, .ref (ad (100 + j))), (0, .ref (ad 0)), (1, .int p0), (2, .int ((eNx (eSp I J si tc p0) (I 5) (j + 1)).1)), (3, .int ((eNx (eSp I J si tc p0) (I 5) (j + 1)).2)), (4, .int (nI j))] := by rw [eNx_neg (fun h => hP h.1)]; exact hl
        refine lv_iinc (v := nI (j + 1)) (lv' := [(4, .int (nI (j + 1))), (5, .ref (ad (100 + j))), (0, .ref (ad 0)), (1, .int p0), (2, .int ((eNx (eSp I J si tc p0) (I 5) (j + 1)).1)), (3, .int ((eNx (eSp I J si tc p0) (I 5) (j + 1)).2))]) hx hb d_E_nextSpare_60 hl (k := 5) rfl (nI_1 _) (by decide) rfl (fun ls hl => ?_)
        refine lv_goto (tgt := 9) hx hb d_E_nextSpare_63 (by decide) ?_
        exact ih9 (j + 1) ls H locs (⟨by omega, by omega, trivial⟩) (lv_sub hl [2, 3, 4, 5, 0] rfl) hm
      · refine lv_aload hx hb d_E_nextSpare_42 (lv_at hl 0 rfl) ?_
        refine m_get (v := .int (I 5 j)) (C := R_To) (T := T_To) (N := 9) hx hb hT in_To hown hC.1 hm (100 + j) rfl ((congrFun hG (100 + j)).trans (gE_to htc ht)) rfl 3 (by decide) (hT _ k_262) (fun _ h9 => h9) rfl d_E_nextSpare_44 ?_
        refine lv_iload_n hx hb d_E_nextSpare_47 rfl (lv_at hl 4 rfl) ?_
        refine lv_icmp_ge (tgt := 60) hx hb d_E_nextSpare_48 (by decide) (fun c_48 => ?_) (fun c_48 => ?_)
        · have hP : eSp I J si tc p0 j = true := decide_eq_true (Classical.byContradiction (fun hq => c_39 (by rw [w_2, if_neg (fun h => hq ⟨htc, h⟩)])))
          have hl : lv_has ls 6 [(5, .ref (ad (100 + j))), (0, .ref (ad 0)), (1, .int p0), (2, .int ((eNx (eSp I J si tc p0) (I 5) (j + 1)).1)), (3, .int ((eNx (eSp I J si tc p0) (I 5) (j + 1)).2)), (4, .int (nI j))] := by rw [eNx_neg (fun h => Int32.not_lt.mpr c_48 h.2)]; exact hl
          refine lv_iinc (v := nI (j + 1)) (lv' := [(4, .int (nI (j + 1))), (5, .ref (ad (100 + j))), (0, .ref (ad 0)), (1, .int p0), (2, .int ((eNx (eSp I J si tc p0) (I 5) (j + 1)).1)), (3, .int ((eNx (eSp I J si tc p0) (I 5) (j + 1)).2))]) hx hb d_E_nextSpare_60 hl (k := 5) rfl (nI_1 _) (by decide) rfl (fun ls hl => ?_)
          refine lv_goto (tgt := 9) hx hb d_E_nextSpare_63 (by decide) ?_
          exact ih9 (j + 1) ls H locs (⟨by omega, by omega, trivial⟩) (lv_sub hl [2, 3, 4, 5, 0] rfl) hm
        · refine lv_iload hx hb d_E_nextSpare_51 (lv_at hl 5 rfl) ?_
          refine lv_istore_n (lv' := [(2, .int (nI j)), (5, .ref (ad (100 + j))), (0, .ref (ad 0)), (1, .int p0), (3, .int ((eNx (eSp I J si tc p0) (I 5) j).2)), (4, .int (nI j))]) hx hb d_E_nextSpare_53 rfl hl (by decide) rfl (fun ls hl => ?_)
          refine lv_aload hx hb d_E_nextSpare_54 (lv_at hl 1 rfl) ?_
          refine m_get (v := .int (I 5 j)) (C := R_To) (T := T_To) (N := 9) hx hb hT in_To hown hC.1 hm (100 + j) rfl ((congrFun hG (100 + j)).trans (gE_to htc ht)) rfl 3 (by decide) (hT _ k_262) (fun _ h9 => h9) rfl d_E_nextSpare_56 ?_
          refine lv_istore_n (lv' := [(3, .int (I 5 j)), (2, .int (nI j)), (5, .ref (ad (100 + j))), (0, .ref (ad 0)), (1, .int p0), (4, .int (nI j))]) hx hb d_E_nextSpare_59 rfl hl (by decide) rfl (fun ls hl => ?_)
          have hP : eSp I J si tc p0 j = true := decide_eq_true (Classical.byContradiction (fun hq => c_39 (by rw [w_2, if_neg (fun h => hq ⟨htc, h⟩)])))
          have hl : lv_has ls 6 [(3, .int ((eNx (eSp I J si tc p0) (I 5) (j + 1)).2)), (2, .int ((eNx (eSp I J si tc p0) (I 5) (j + 1)).1)), (5, .ref (ad (100 + j))), (0, .ref (ad 0)), (1, .int p0), (4, .int (nI j))] := by rw [eNx_pos hP (Int32.not_le.mp c_48)]; exact hl
          refine lv_iinc (v := nI (j + 1)) (lv' := [(4, .int (nI (j + 1))), (3, .int ((eNx (eSp I J si tc p0) (I 5) (j + 1)).2)), (2, .int ((eNx (eSp I J si tc p0) (I 5) (j + 1)).1)), (5, .ref (ad (100 + j))), (0, .ref (ad 0)), (1, .int p0)]) hx hb d_E_nextSpare_60 hl (k := 5) rfl (nI_1 _) (by decide) rfl (fun ls hl => ?_)
          refine lv_goto (tgt := 9) hx hb d_E_nextSpare_63 (by decide) ?_
          exact ih9 (j + 1) ls H locs (⟨by omega, by omega, trivial⟩) (lv_sub hl [4, 5, 2, 1, 0] rfl) hm
    · refine m_aald (v := .null) hx hb hC.1 hm 3 rfl 4 ((congrFun hG 3).trans gE_c3) rfl (vp_in_nI (by omega) (by decide)) (by rw [nI_clamp (by omega)]; simp only [htc, if_false]; rfl) d_E_nextSpare_25 ?_
      refine lv_astoreN (lv' := [(5, .null), (0, .ref (ad 0)), (1, .int p0), (2, .int ((eNx (eSp I J si tc p0) (I 5) j).1)), (3, .int ((eNx (eSp I J si tc p0) (I 5) j).2)), (4, .int (nI j))]) hx hb d_E_nextSpare_26 hl (by decide) rfl (fun ls hl => ?_)
      refine lv_aloadN hx hb d_E_nextSpare_28 (lv_at hl 0 rfl) ?_
      refine lv_ifnullN (tgt := 60) hx hb d_E_nextSpare_30 (by decide) ?_
      have hP : ¬ eSp I J si tc p0 j = true := fun h => htc (of_decide_eq_true h).1
      have hl : lv_has ls 6 [(5, .null), (0, .ref (ad 0)), (1, .int p0), (2, .int ((eNx (eSp I J si tc p0) (I 5) (j + 1)).1)), (3, .int ((eNx (eSp I J si tc p0) (I 5) (j + 1)).2)), (4, .int (nI j))] := by rw [eNx_neg (fun h => hP h.1)]; exact hl
      refine lv_iinc (v := nI (j + 1)) (lv' := [(4, .int (nI (j + 1))), (5, .null), (0, .ref (ad 0)), (1, .int p0), (2, .int ((eNx (eSp I J si tc p0) (I 5) (j + 1)).1)), (3, .int ((eNx (eSp I J si tc p0) (I 5) (j + 1)).2))]) hx hb d_E_nextSpare_60 hl (k := 5) rfl (nI_1 _) (by decide) rfl (fun ls hl => ?_)
      refine lv_goto (tgt := 9) hx hb d_E_nextSpare_63 (by decide) ?_
      exact ih9 (j + 1) ls H locs (⟨by omega, by omega, trivial⟩) (lv_sub hl [2, 3, 4, 5, 0] rfl) hm
end
section
set_option maxHeartbeats 4000000 in
set_option maxRecDepth 100000 in
theorem c_E_take (l : Launch) (hlt : l.stackTraces = false) (D : va_G) (dA : Nat → ClassId) (ad : Nat → Nat) (G : mG) (sz : Nat) (I : Nat → Nat → Int32) (J : Nat → Nat → Int64) (F : Nat → Nat → Nat → Int32) (si : Nat → Nat) (tc oc : Nat) (G0 : mG) (hG : G = gE dA ad I J F si tc oc G0) (ht : tc ≤ 12) (hs : ∀ i, i < tc → si i < 4) (p0 : Int32) : vx_Met l y_E_take (.code y_E_take b_E_take 3 (some .int) :: mBig) ({ frames := 7, cells := 2, slots := 12, locals := 104 }) (mPc [.ref (ad 0), .int p0] D mCl (mTys dA) mTx ad G sz) (mQi (fun (rv : Int32) (u : mU) => (∃ i, i < 4 ∧ p0 = nI i ∧ rv = (eNx (eSp I J si tc (nI i)) (I 5) 12).1 ∧ ((rv = -1 ∧ u = (ad, gE dA ad I J F si tc oc G0)) ∨ ∃ t, t < tc ∧ rv = nI t ∧ u = (ad, gE dA ad (up2 I 8 t 1) J F si tc oc G0)))) D mCl ad G sz) (mXC (fun (E : String) (u : mU) => (E = "java/lang/IndexOutOfBoundsException" ∧ ¬ ∃ i, i < 4 ∧ p0 = nI i) ∧ u = (ad, G)) D mCl ad G sz) 2 12 (mA ad G sz) := by
  refine vx_ofW (cc := b_E_take) (maxL := 3) (ret := (some .int)) (by decide) rfl ?_
  intro p e s m args below meth c s₁ B hml hout hv
  obtain ⟨rfl, hsz, hw0, hC⟩ := hv
  have hx := B.exec
  have hb := B.bytes
  have hr := B.returns
  have hts := atoms_spec (ws := .code y_E_take b_E_take 3 (some .int) :: mBig) B.pre
  have hT : ∀ w ∈ mBig, w.before _ s = true := fun w h => hts w (List.mem_cons_of_mem _ h)
  have hown : s.vm.findClass "EdgeWear" = some m.cls := findClass_of_methodNamed B.named
  have hlocks := B.notSynchronized
  subst hsz
  have hm := mS.start hw0
  have hA : ∀ q : Nat, s.heap.size ≤ q → mA ad G s.heap.size q := fun q h => Or.inr h
  have hl := lv_entry ([.ref (ad 0), .int p0]) (n := 3) (Nat.le_of_ble_eq_true rfl)
  rw [lg_entry_eq]
  generalize (lg_sl ([.ref (ad 0), .int p0]) ++ List.replicate (3 - (lg_sl ([.ref (ad 0), .int p0])).length) Slot.unset).toArray = ls at hl ⊢
  have hl : lv_has ls 3 [(0, .ref (ad 0)), (1, .int p0)] := hl
  refine lv_aload_n hx hb d_E_take_0 rfl (lv_at hl 0 rfl) ?_
  refine lv_aload_n hx hb d_E_take_1 rfl (lv_at hl 0 rfl) ?_
  refine lv_iload_n hx hb d_E_take_2 rfl (lv_at hl 1 rfl) ?_
  refine x_roq (x_runV (As := [.int p0]) (rest := [.ref (ad 0)]) ⟨hx, hb, hml, hown, hts⟩ (c_E_sortAt l hlt D dA ad G s.heap.size I J F si tc oc G0 hG ht p0) (cwV 1 hts (gV k_132 k_129 k_131 ks_0 k_1) rfl rfl rfl (by decide +kernel) ⟨Nat.le_of_ble_eq_true rfl, Nat.le_of_ble_eq_true rfl⟩) hm hA hC 0 rfl ((congrFun hG 0).trans gE_c0) rfl rfl rfl hl.1 rfl (Nat.le_of_ble_eq_true rfl) d_E_take_3 ⟨Nat.le_of_ble_eq_true rfl, Nat.le_of_ble_eq_true rfl⟩) hm hA (fun E ce q9 H locs w_2 hm h7 h8 h9 => ?_) (fun r_1 H locs w_2 hm => ?_)
  · exact m_out hout hlocks hm h7 h8 h9 (by
      obtain ⟨rfl, hq⟩ := w_2
      exact ⟨⟨rfl, hq⟩, rfl⟩) (by decide) (by decide)
  · obtain ⟨i, hi, epi, er⟩ := w_2
    subst er
    rw [show va_rf (some (ad (10 + i))) = .ref (ad (10 + i)) from rfl]
    refine m_get (v := .int (nI i)) (C := R_So) (T := T_So) (N := 6) hx hb hT in_So hown hC.1 hm (10 + i) rfl ((congrFun hG (10 + i)).trans (gE_so hi)) rfl 0 (by decide) (hT _ k_34) (fun _ h9 => h9) rfl d_E_take_6 ?_
    refine m_roi (m_runV (As := [.int (nI i)]) (rest := []) ⟨hx, hb, hml, hown, hts⟩ (c_E_nextSpare l D dA ad G H.size I J F si tc oc G0 hG ht hs (nI i)) (cwV 1 hts (gV k_385 k_382 k_384 ks_3 k_1) rfl rfl rfl (by decide +kernel) ⟨Nat.le_of_ble_eq_true rfl, Nat.le_of_ble_eq_true rfl⟩) hm hA hC 0 rfl ((congrFun hG 0).trans gE_c0) rfl rfl rfl hl.1 rfl (Nat.le_of_ble_eq_true rfl) d_E_take_9 ⟨Nat.le_of_ble_eq_true rfl, Nat.le_of_ble_eq_true rfl⟩) hm hA (fun r_3 H locs w_4 hm => ?_)
    refine lv_istore_n (lv' := [(2, .int r_3), (0, .ref (ad 0)), (1, .int p0)]) hx hb d_E_take_12 rfl hl (by decide) rfl (fun ls hl => ?_)
    refine lv_iload_n hx hb d_E_take_13 rfl (lv_at hl 0 rfl) ?_
    refine lv_iconst (v := (-1)) hx hb d_E_take_14 (by decide) ?_
    refine lv_icmp_eq (tgt := 27) hx hb d_E_take_15 (by decide) (fun c_15 => ?_) (fun c_15 => ?_)
    · refine lv_iload_n hx hb d_E_take_27 rfl (lv_at hl 0 rfl) ?_
      refine W.widen (k := 2) (n := 12) (by omega) (by omega) ?_
      refine vx_ret ?_
      exact m_iret (v := r_3) hx hb hr hm (⟨i, hi, epi, w_4, Or.inl ⟨c_15, by rw [hG]⟩⟩) d_E_take_28 hlocks
    · refine lv_aload_n hx hb d_E_take_18 rfl (lv_at hl 1 rfl) ?_
      refine lv_iload_n hx hb d_E_take_19 rfl (lv_at hl 0 rfl) ?_
      refine x_roq (x_runV (As := [.int r_3]) (rest := []) ⟨hx, hb, hml, hown, hts⟩ (c_E_toolAt l hlt D dA ad G H.size I J F si tc oc G0 hG ht r_3) (cwV 1 hts (gV k_323 k_320 k_322 ks_2 k_1) rfl rfl rfl (by decide +kernel) ⟨Nat.le_of_ble_eq_true rfl, Nat.le_of_ble_eq_true rfl⟩) hm hA hC 0 rfl ((congrFun hG 0).trans gE_c0) rfl rfl rfl hl.1 rfl (Nat.le_of_ble_eq_true rfl) d_E_take_20 ⟨Nat.le_of_ble_eq_true rfl, Nat.le_of_ble_eq_true rfl⟩) hm hA (fun E ce q9 H locs w_6 hm h7 h8 h9 => ?_) (fun r_5 H locs w_6 hm => ?_)
      · exfalso
        rcases eNx_in (eSp I J si tc (nI i)) (I 5) 12 with h | ⟨t, ht1, ht2, ht3⟩
        · exact c_15 (by rw [w_4, h])
        · exact w_6.2 ⟨t, (of_decide_eq_true ht2).1, by rw [w_4, ht3]⟩
      · obtain ⟨ta, hta, epta, er⟩ := w_6
        subst er
        rw [show va_rf (some (ad (100 + ta))) = .ref (ad (100 + ta)) from rfl]
        refine lv_iconst (v := 1) hx hb d_E_take_23 (by decide) ?_
        refine m_put (v := .int 1) (ty := .boolean) (C := R_To) (T := T_To) (N := 9) hx hb hT in_To t_To tok_To nm_To hown hC.1 hm (100 + ta) rfl ((congrFun hG (100 + ta)).trans (gE_to hta ht)) rfl 8 (by decide) (hT _ k_272) (fun _ h9 => h9) rfl (by decide +kernel) rfl rfl (Nat.le_of_ble_eq_true rfl) d_E_take_24 (fun H locs hm => ?_)
        obtain ⟨G_7, eG_7⟩ : ∃ z : mG, z = va_up G (100 + ta) (some (.inr (4, [.ref (ad (10 + si ta)), .int (I 6 ta), .ref (ad (200 + ta)), .int (I 5 ta), .long (J 1 ta), .long (J 2 ta), .long (J 3 ta), .int (I 7 ta), .int 1]))) := ⟨_, rfl⟩
        have hm : mS D mCl (mA ad G s.heap.size) s.heap ad G_7 H locs := by rw [eG_7]; exact hm
        have g_8 := (congrFun eG_7 0).trans ((va_up_ne _ _ (by omega)).trans ((congrFun hG 0).trans gE_c0))
        have g_9 := (congrFun eG_7 1).trans ((va_up_ne _ _ (by omega)).trans ((congrFun hG 1).trans gE_c1))
        have g_10 := (congrFun eG_7 2).trans ((va_up_ne _ _ (by omega)).trans ((congrFun hG 2).trans gE_c2))
        have g_11 := (congrFun eG_7 3).trans ((va_up_ne _ _ (by omega)).trans ((congrFun hG 3).trans gE_c3))
        have g_12 := (congrFun eG_7 4).trans ((va_up_ne _ _ (by omega)).trans ((congrFun hG 4).trans gE_c4))
        have g_13 := (congrFun eG_7 5).trans ((va_up_ne _ _ (by omega)).trans ((congrFun hG 5).trans gE_c5))
        have g_14 := (congrFun eG_7 (10 + i)).trans ((va_up_ne _ _ (by omega)).trans ((congrFun hG (10 + i)).trans (gE_so hi)))
        have g_15 := (congrFun eG_7 (20 + i)).trans ((va_up_ne _ _ (by omega)).trans ((congrFun hG (20 + i)).trans (gE_li hi)))
        have g_16 : G_7 (100 + ta) = some (.inr (4, [.ref (ad (10 + si ta)), .int (I 6 ta), .ref (ad (200 + ta)), .int (I 5 ta), .long (J 1 ta), .long (J 2 ta), .long (J 3 ta), .int (I 7 ta), .int 1])) := by rw [eG_7, va_up_self]
        refine lv_iload_n hx hb d_E_take_27 rfl (lv_at hl 0 rfl) ?_
        refine vx_ret ?_
        exact m_iret (v := r_3) hx hb hr hm (⟨i, hi, epi, w_4, Or.inr ⟨ta, hta, epta, by rw [eG_7, hG, gE_utool hta ht, up2_id, up2_id, up2_id, up2_id, up2_id]⟩⟩) d_E_take_28 hlocks

set_option maxHeartbeats 4000000 in
set_option maxRecDepth 100000 in
theorem c_E_isAnyDue (l : Launch) (D : va_G) (dA : Nat → ClassId) (ad : Nat → Nat) (G : mG) (sz : Nat) (I : Nat → Nat → Int32) (J : Nat → Nat → Int64) (F : Nat → Nat → Nat → Int32) (si : Nat → Nat) (tc oc : Nat) (G0 : mG) (hG : G = gE dA ad I J F si tc oc G0) (ht : tc ≤ 12) (ho : oc ≤ 16) (p0 p1 : Int32) : Met l y_E_isAnyDue (.code y_E_isAnyDue b_E_isAnyDue 5 (some .boolean) :: mBig) ({ frames := 1, cells := 0, slots := 0, locals := 22 }) (mPc [.ref (ad 0), .int p0, .int p1] D mCl (mTys dA) mTx ad G sz) (mQi (fun (rv : Int32) (u : mU) => (bv rv (∃ t, t < oc ∧ eDu I oc p0 p1 t = true)) ∧ u = (ad, G)) D mCl ad G sz) 0 0 (mA ad G sz) := by
  refine Met.ofW (cc := b_E_isAnyDue) (maxL := 5) (ret := (some .boolean)) (by decide) rfl ?_
  intro p e s m args below meth c s₁ B hml hv
  obtain ⟨rfl, hsz, hw0, hC⟩ := hv
  have hx := B.exec
  have hb := B.bytes
  have hr := B.returns
  have hts := atoms_spec (ws := .code y_E_isAnyDue b_E_isAnyDue 5 (some .boolean) :: mBig) B.pre
  have hT : ∀ w ∈ mBig, w.before _ s = true := fun w h => hts w (List.mem_cons_of_mem _ h)
  have hown : s.vm.findClass "EdgeWear" = some m.cls := findClass_of_methodNamed B.named
  have hlocks := B.notSynchronized
  subst hsz
  have hm := mS.start hw0
  have hA : ∀ q : Nat, s.heap.size ≤ q → mA ad G s.heap.size q := fun q h => Or.inr h
  have hl := lv_entry ([.ref (ad 0), .int p0, .int p1]) (n := 5) (Nat.le_of_ble_eq_true rfl)
  rw [lg_entry_eq]
  generalize (lg_sl ([.ref (ad 0), .int p0, .int p1]) ++ List.replicate (5 - (lg_sl ([.ref (ad 0), .int p0, .int p1])).length) Slot.unset).toArray = ls at hl ⊢
  have hl : lv_has ls 5 [(0, .ref (ad 0)), (1, .int p0), (2, .int p1)] := hl
  refine lv_iconst (v := 0) hx hb d_E_isAnyDue_0 (by decide) ?_
  refine lv_istore_n (lv' := [(3, .int 0), (0, .ref (ad 0)), (1, .int p0), (2, .int p1)]) hx hb d_E_isAnyDue_1 rfl hl (by decide) rfl (fun ls hl => ?_)
  refine m_loopH (nL := 5) (head := 2) (fun (q9 : Nat) => fun (x : Nat) => match x with | j => q9 + j = 17 ∧ j ≤ 16 ∧ ∀ t, t < j → ¬ eDu I oc p0 p1 t = true) (fun (x : Nat) => match x with | j => [(0, .ref (ad 0)), (1, .int p0), (2, .int p1), (3, .int (nI j))]) (fun _ => G) (fun j h => by have h1 := h.1; have h2 := h.2.1; omega) (fun q9 x ls H locs hI hl hm ih2 => ?_) (16) (0) (⟨by omega, by omega, fun t h => absurd h (Nat.not_lt_zero t)⟩) (lv_sub hl [1, 2, 3, 0] rfl) hm
  obtain ⟨j, ej⟩ : ∃ z, z = x := ⟨_, rfl⟩
  subst ej
  replace hI : (fun (q9 : Nat) => q9 + j = 17 ∧ j ≤ 16 ∧ ∀ t, t < j → ¬ eDu I oc p0 p1 t = true) (q9 + 1) := hI
  have hl : lv_has ls 5 [(0, .ref (ad 0)), (1, .int p0), (2, .int p1), (3, .int (nI j))] := hl
  refine lv_iload_n hx hb d_E_isAnyDue_2 rfl (lv_at hl 3 rfl) ?_
  refine lv_aload_n hx hb d_E_isAnyDue_3 rfl (lv_at hl 0 rfl) ?_
  refine m_get (v := .ref (ad 4)) (C := R_E) (T := T_E) (N := 8) hx hb hT in_E hown hC.1 hm 0 rfl ((congrFun hG 0).trans gE_c0) rfl 4 (by decide) (hT _ k_91) (fun _ h9 => h9) rfl d_E_isAnyDue_4 ?_
  refine m_alen (v := 16) hx hb hC.1 hm 4 rfl 5 ((congrFun hG 4).trans gE_c4) rfl rfl d_E_isAnyDue_7 ?_
  refine lv_icmp_ge (tgt := 42) hx hb d_E_isAnyDue_8 (by decide) (fun c_8 => ?_) (fun c_8 => ?_)
  · have hge : j = 16 := by
      have := (nI_leI (a := 16) (by decide) (by omega)).mp c_8
      omega
    refine lv_iconst (v := 0) hx hb d_E_isAnyDue_42 (by decide) ?_
    exact m_zret (v := 0) hx hb hr rfl hm (⟨bv0 (fun h => by
      obtain ⟨t, h1, h2⟩ := h
      exact hI.2.2 t (by omega) h2), rfl⟩) d_E_isAnyDue_43 hlocks
  · have hj16 : j < 16 := (nI_ltI (b := 16) (by omega) (by decide)).mp (Int32.not_le.mp c_8)
    refine lv_aload_n hx hb d_E_isAnyDue_11 rfl (lv_at hl 0 rfl) ?_
    refine m_get (v := .ref (ad 4)) (C := R_E) (T := T_E) (N := 8) hx hb hT in_E hown hC.1 hm 0 rfl ((congrFun hG 0).trans gE_c0) rfl 4 (by decide) (hT _ k_91) (fun _ h9 => h9) rfl d_E_isAnyDue_12 ?_
    refine lv_iload_n hx hb d_E_isAnyDue_15 rfl (lv_at hl 3 rfl) ?_
    by_cases htc : j < oc
    · refine m_aald (v := .ref (ad (400 + j))) hx hb hC.1 hm 4 rfl 5 ((congrFun hG 4).trans gE_c4) rfl (vp_in_nI (by omega) (by decide)) (by rw [nI_clamp (by omega)]; simp only [htc, if_true]; rfl) d_E_isAnyDue_16 ?_
      refine lv_astore (lv' := [(4, .ref (ad (400 + j))), (0, .ref (ad 0)), (1, .int p0), (2, .int p1), (3, .int (nI j))]) hx hb d_E_isAnyDue_17 hl (by decide) rfl (fun ls hl => ?_)
      refine lv_aload hx hb d_E_isAnyDue_19 (lv_at hl 0 rfl) ?_
      refine lv_ifnull hx hb d_E_isAnyDue_21 ?_
      refine lv_aload hx hb d_E_isAnyDue_24 (lv_at hl 0 rfl) ?_
      refine lv_iload_n hx hb d_E_isAnyDue_26 rfl (lv_at hl 2 rfl) ?_
      refine lv_iload_n hx hb d_E_isAnyDue_27 rfl (lv_at hl 3 rfl) ?_
      refine m_roi (m_runV (As := [.int p0, .int p1]) (rest := []) ⟨hx, hb, hml, hown, hts⟩ (c_Or_isDue l D dA ad G H.size (400 + j) (I 11 j) (I 12 j) (I 13 j) p0 p1 ((congrFun hG (400 + j)).trans (gE_od htc ht ho))) (cwV 2 hts (gV k_564 k_561 k_562 k_563 k_15) rfl rfl rfl (by decide +kernel) ⟨Nat.le_of_ble_eq_true rfl, Nat.le_of_ble_eq_true rfl⟩) hm hA hC (400 + j) rfl ((congrFun hG (400 + j)).trans (gE_od htc ht ho)) rfl rfl rfl hl.1 rfl (Nat.le_of_ble_eq_true rfl) d_E_isAnyDue_28 ⟨Nat.le_of_ble_eq_true rfl, Nat.le_of_ble_eq_true rfl⟩) hm hA (fun r_1 H locs w_2 hm => ?_)
      refine lv_if_eq (tgt := 36) hx hb d_E_isAnyDue_31 (by decide) (fun c_31 => ?_) (fun c_31 => ?_)
      · have hP : ¬ eDu I oc p0 p1 j = true := fun h => by
          have h8 := of_decide_eq_true h
          have h9 := w_2
          rw [if_pos h8.2] at h9
          rw [h9] at c_31
          exact absurd c_31 (by decide)
        refine lv_iinc (v := nI (j + 1)) (lv' := [(3, .int (nI (j + 1))), (4, .ref (ad (400 + j))), (0, .ref (ad 0)), (1, .int p0), (2, .int p1)]) hx hb d_E_isAnyDue_36 hl (k := 4) rfl (nI_1 _) (by decide) rfl (fun ls hl => ?_)
        refine lv_goto (tgt := 2) hx hb d_E_isAnyDue_39 (by decide) ?_
        exact ih2 (j + 1) ls H locs (⟨by omega, by omega, fun t h9 => (Nat.lt_succ_iff_lt_or_eq.mp h9).elim (fun q => hI.2.2 t q) (fun q => by rw [q]; exact hP)⟩) (lv_sub hl [2, 3, 4, 0] rfl) hm
      · refine lv_iconst (v := 1) hx hb d_E_isAnyDue_34 (by decide) ?_
        exact m_zret (v := 1) hx hb hr rfl hm (⟨bv1 ⟨j, htc, decide_eq_true (Classical.byContradiction (fun hq => c_31 (by rw [w_2, if_neg (fun h => hq ⟨htc, h⟩)])))⟩, rfl⟩) d_E_isAnyDue_35 hlocks
    · refine m_aald (v := .null) hx hb hC.1 hm 4 rfl 5 ((congrFun hG 4).trans gE_c4) rfl (vp_in_nI (by omega) (by decide)) (by rw [nI_clamp (by omega)]; simp only [htc, if_false]; rfl) d_E_isAnyDue_16 ?_
      refine lv_astoreN (lv' := [(4, .null), (0, .ref (ad 0)), (1, .int p0), (2, .int p1), (3, .int (nI j))]) hx hb d_E_isAnyDue_17 hl (by decide) rfl (fun ls hl => ?_)
      refine lv_aloadN hx hb d_E_isAnyDue_19 (lv_at hl 0 rfl) ?_
      refine lv_ifnullN (tgt := 36) hx hb d_E_isAnyDue_21 (by decide) ?_
      have hP : ¬ eDu I oc p0 p1 j = true := fun h => htc (of_decide_eq_true h).1
      refine lv_iinc (v := nI (j + 1)) (lv' := [(3, .int (nI (j + 1))), (4, .null), (0, .ref (ad 0)), (1, .int p0), (2, .int p1)]) hx hb d_E_isAnyDue_36 hl (k := 4) rfl (nI_1 _) (by decide) rfl (fun ls hl => ?_)
      refine lv_goto (tgt := 2) hx hb d_E_isAnyDue_39 (by decide) ?_
      exact ih2 (j + 1) ls H locs (⟨by omega, by omega, fun t h9 => (Nat.lt_succ_iff_lt_or_eq.mp h9).elim (fun q => hI.2.2 t q) (fun q => by rw [q]; exact hP)⟩) (lv_sub hl [2, 3, 4, 0] rfl) hm

set_option maxHeartbeats 4000000 in
set_option maxRecDepth 100000 in
theorem c_E_open (l : Launch) (D : va_G) (dA : Nat → ClassId) (ad : Nat → Nat) (G : mG) (sz : Nat) (I : Nat → Nat → Int32) (J : Nat → Nat → Int64) (F : Nat → Nat → Nat → Int32) (si : Nat → Nat) (tc oc : Nat) (G0 : mG) (hG : G = gE dA ad I J F si tc oc G0) (ht : tc ≤ 12) (ho : oc ≤ 16) : Met l y_E_open (.code y_E_open b_E_open 4 (some .int) :: mBig) ({ frames := 0, cells := 0, slots := 0, locals := 0 }) (mPc [.ref (ad 0)] D mCl (mTys dA) mTx ad G sz) (mQi (fun (rv : Int32) (u : mU) => (rv = nI (eCnt (eOp I oc) 16)) ∧ u = (ad, G)) D mCl ad G sz) 0 0 (mA ad G sz) := by
  refine Met.ofW (cc := b_E_open) (maxL := 4) (ret := (some .int)) (by decide) rfl ?_
  intro p e s m args below meth c s₁ B hml hv
  obtain ⟨rfl, hsz, hw0, hC⟩ := hv
  have hx := B.exec
  have hb := B.bytes
  have hr := B.returns
  have hts := atoms_spec (ws := .code y_E_open b_E_open 4 (some .int) :: mBig) B.pre
  have hT : ∀ w ∈ mBig, w.before _ s = true := fun w h => hts w (List.mem_cons_of_mem _ h)
  have hown : s.vm.findClass "EdgeWear" = some m.cls := findClass_of_methodNamed B.named
  have hlocks := B.notSynchronized
  subst hsz
  have hm := mS.start hw0
  have hA : ∀ q : Nat, s.heap.size ≤ q → mA ad G s.heap.size q := fun q h => Or.inr h
  have hl := lv_entry ([.ref (ad 0)]) (n := 4) (Nat.le_of_ble_eq_true rfl)
  rw [lg_entry_eq]
  generalize (lg_sl ([.ref (ad 0)]) ++ List.replicate (4 - (lg_sl ([.ref (ad 0)])).length) Slot.unset).toArray = ls at hl ⊢
  have hl : lv_has ls 4 [(0, .ref (ad 0))] := hl
  refine lv_iconst (v := 0) hx hb d_E_open_0 (by decide) ?_
  refine lv_istore_n (lv' := [(1, .int 0), (0, .ref (ad 0))]) hx hb d_E_open_1 rfl hl (by decide) rfl (fun ls hl => ?_)
  refine lv_iconst (v := 0) hx hb d_E_open_2 (by decide) ?_
  refine lv_istore_n (lv' := [(2, .int 0), (1, .int 0), (0, .ref (ad 0))]) hx hb d_E_open_3 rfl hl (by decide) rfl (fun ls hl => ?_)
  refine m_loopH (nL := 4) (head := 4) (fun (q9 : Nat) => fun (x : Nat) => match x with | j => q9 + j = 17 ∧ j ≤ 16 ∧ True) (fun (x : Nat) => match x with | j => [(0, .ref (ad 0)), (1, .int (nI (eCnt (eOp I oc) j))), (2, .int (nI j))]) (fun _ => G) (fun j h => by have h1 := h.1; have h2 := h.2.1; omega) (fun q9 x ls H locs hI hl hm ih4 => ?_) (16) (0) (⟨by omega, by omega, trivial⟩) (lv_sub hl [2, 1, 0] rfl) hm
  obtain ⟨j, ej⟩ : ∃ z, z = x := ⟨_, rfl⟩
  subst ej
  replace hI : (fun (q9 : Nat) => q9 + j = 17 ∧ j ≤ 16 ∧ True) (q9 + 1) := hI
  have hl : lv_has ls 4 [(0, .ref (ad 0)), (1, .int (nI (eCnt (eOp I oc) j))), (2, .int (nI j))] := hl
  refine lv_iload_n hx hb d_E_open_4 rfl (lv_at hl 2 rfl) ?_
  refine lv_aload_n hx hb d_E_open_5 rfl (lv_at hl 0 rfl) ?_
  refine m_get (v := .ref (ad 4)) (C := R_E) (T := T_E) (N := 8) hx hb hT in_E hown hC.1 hm 0 rfl ((congrFun hG 0).trans gE_c0) rfl 4 (by decide) (hT _ k_91) (fun _ h9 => h9) rfl d_E_open_6 ?_
  refine m_alen (v := 16) hx hb hC.1 hm 4 rfl 5 ((congrFun hG 4).trans gE_c4) rfl rfl d_E_open_9 ?_
  refine lv_icmp_ge (tgt := 40) hx hb d_E_open_10 (by decide) (fun c_10 => ?_) (fun c_10 => ?_)
  · have hge : j = 16 := by
      have := (nI_leI (a := 16) (by decide) (by omega)).mp c_10
      omega
    refine lv_iload_n hx hb d_E_open_40 rfl (lv_at hl 1 rfl) ?_
    exact m_iret (v := nI (eCnt (eOp I oc) j)) hx hb hr hm (⟨by rw [hge], rfl⟩) d_E_open_41 hlocks
  · have hj16 : j < 16 := (nI_ltI (b := 16) (by omega) (by decide)).mp (Int32.not_le.mp c_10)
    refine lv_aload_n hx hb d_E_open_13 rfl (lv_at hl 0 rfl) ?_
    refine m_get (v := .ref (ad 4)) (C := R_E) (T := T_E) (N := 8) hx hb hT in_E hown hC.1 hm 0 rfl ((congrFun hG 0).trans gE_c0) rfl 4 (by decide) (hT _ k_91) (fun _ h9 => h9) rfl d_E_open_14 ?_
    refine lv_iload_n hx hb d_E_open_17 rfl (lv_at hl 2 rfl) ?_
    by_cases htc : j < oc
    · refine m_aald (v := .ref (ad (400 + j))) hx hb hC.1 hm 4 rfl 5 ((congrFun hG 4).trans gE_c4) rfl (vp_in_nI (by omega) (by decide)) (by rw [nI_clamp (by omega)]; simp only [htc, if_true]; rfl) d_E_open_18 ?_
      refine lv_astore_n (lv' := [(3, .ref (ad (400 + j))), (0, .ref (ad 0)), (1, .int (nI (eCnt (eOp I oc) j))), (2, .int (nI j))]) hx hb d_E_open_19 rfl hl (by decide) rfl (fun ls hl => ?_)
      refine lv_aload_n hx hb d_E_open_20 rfl (lv_at hl 0 rfl) ?_
      refine lv_ifnull hx hb d_E_open_21 ?_
      refine lv_aload_n hx hb d_E_open_24 rfl (lv_at hl 0 rfl) ?_
      refine m_get (v := .int (I 13 j)) (C := R_Or) (T := T_Or) (N := 3) hx hb hT in_Or hown hC.1 hm (400 + j) rfl ((congrFun hG (400 + j)).trans (gE_od htc ht ho)) rfl 2 (by decide) (hT _ k_542) (fun _ h9 => h9) rfl d_E_open_25 ?_
      refine lv_if_ne (tgt := 34) hx hb d_E_open_28 (by decide) (fun c_28 => ?_) (fun c_28 => ?_)
      · have hP : ¬ eOp I oc j = true := fun h => c_28 (of_decide_eq_true h).2
        have hl : lv_has ls 4 [(3, .ref (ad (400 + j))), (0, .ref (ad 0)), (1, .int (nI (eCnt (eOp I oc) (j + 1)))), (2, .int (nI j))] := by rw [eCnt_neg hP]; exact hl
        refine lv_iinc (v := nI (j + 1)) (lv' := [(2, .int (nI (j + 1))), (3, .ref (ad (400 + j))), (0, .ref (ad 0)), (1, .int (nI (eCnt (eOp I oc) (j + 1))))]) hx hb d_E_open_34 hl (k := 3) rfl (nI_1 _) (by decide) rfl (fun ls hl => ?_)
        refine lv_goto (tgt := 4) hx hb d_E_open_37 (by decide) ?_
        exact ih4 (j + 1) ls H locs (⟨by omega, by omega, trivial⟩) (lv_sub hl [2, 3, 0] rfl) hm
      · refine lv_iinc (v := nI ((eCnt (eOp I oc) j) + 1)) (lv' := [(1, .int (nI ((eCnt (eOp I oc) j) + 1))), (3, .ref (ad (400 + j))), (0, .ref (ad 0)), (2, .int (nI j))]) hx hb d_E_open_31 hl (k := 2) rfl (nI_1 _) (by decide) rfl (fun ls hl => ?_)
        have hP : eOp I oc j = true := decide_eq_true ⟨htc, c_28⟩
        have hl : lv_has ls 4 [(1, .int (nI (eCnt (eOp I oc) (j + 1)))), (3, .ref (ad (400 + j))), (0, .ref (ad 0)), (2, .int (nI j))] := by rw [eCnt_pos hP]; exact hl
        refine lv_iinc (v := nI (j + 1)) (lv' := [(2, .int (nI (j + 1))), (1, .int (nI (eCnt (eOp I oc) (j + 1)))), (3, .ref (ad (400 + j))), (0, .ref (ad 0))]) hx hb d_E_open_34 hl (k := 3) rfl (nI_1 _) (by decide) rfl (fun ls hl => ?_)
        refine lv_goto (tgt := 4) hx hb d_E_open_37 (by decide) ?_
        exact ih4 (j + 1) ls H locs (⟨by omega, by omega, trivial⟩) (lv_sub hl [3, 1, 0] rfl) hm
    · refine m_aald (v := .null) hx hb hC.1 hm 4 rfl 5 ((congrFun hG 4).trans gE_c4) rfl (vp_in_nI (by omega) (by decide)) (by rw [nI_clamp (by omega)]; simp only [htc, if_false]; rfl) d_E_open_18 ?_
      refine lv_astore_nN (lv' := [(3, .null), (0, .ref (ad 0)), (1, .int (nI (eCnt (eOp I oc) j))), (2, .int (nI j))]) hx hb d_E_open_19 rfl hl (by decide) rfl (fun ls hl => ?_)
      refine lv_aload_nN hx hb d_E_open_20 rfl (lv_at hl 0 rfl) ?_
      refine lv_ifnullN (tgt := 34) hx hb d_E_open_21 (by decide) ?_
      have hP : ¬ eOp I oc j = true := fun h => htc (of_decide_eq_true h).1
      have hl : lv_has ls 4 [(3, .null), (0, .ref (ad 0)), (1, .int (nI (eCnt (eOp I oc) (j + 1)))), (2, .int (nI j))] := by rw [eCnt_neg hP]; exact hl
      refine lv_iinc (v := nI (j + 1)) (lv' := [(2, .int (nI (j + 1))), (3, .null), (0, .ref (ad 0)), (1, .int (nI (eCnt (eOp I oc) (j + 1))))]) hx hb d_E_open_34 hl (k := 3) rfl (nI_1 _) (by decide) rfl (fun ls hl => ?_)
      refine lv_goto (tgt := 4) hx hb d_E_open_37 (by decide) ?_
      exact ih4 (j + 1) ls H locs (⟨by omega, by omega, trivial⟩) (lv_sub hl [2, 3, 0] rfl) hm

set_option maxHeartbeats 4000000 in
set_option maxRecDepth 100000 in
theorem c_E_closeDue (l : Launch) (D : va_G) (dA : Nat → ClassId) (ad : Nat → Nat) (G : mG) (sz : Nat) (I : Nat → Nat → Int32) (J : Nat → Nat → Int64) (F : Nat → Nat → Nat → Int32) (si : Nat → Nat) (tc oc : Nat) (G0 : mG) (hG : G = gE dA ad I J F si tc oc G0) (ht : tc ≤ 12) (ho : oc ≤ 16) (p0 p1 : Int32) : Met l y_E_closeDue (.code y_E_closeDue b_E_closeDue 6 (some .int) :: mBig) ({ frames := 1, cells := 0, slots := 0, locals := 22 }) (mPc [.ref (ad 0), .int p0, .int p1] D mCl (mTys dA) mTx ad G sz) (mQi (fun (rv : Int32) (u : mU) => (rv = nI (eCnt (eDu I oc p0 p1) 16) ∧ u = (ad, gE dA ad (eCl I oc p0 p1 16) J F si tc oc G0))) D mCl ad G sz) 0 0 (mA ad G sz) := by
  refine Met.ofW (cc := b_E_closeDue) (maxL := 6) (ret := (some .int)) (by decide) rfl ?_
  intro p e s m args below meth c s₁ B hml hv
  obtain ⟨rfl, hsz, hw0, hC⟩ := hv
  have hx := B.exec
  have hb := B.bytes
  have hr := B.returns
  have hts := atoms_spec (ws := .code y_E_closeDue b_E_closeDue 6 (some .int) :: mBig) B.pre
  have hT : ∀ w ∈ mBig, w.before _ s = true := fun w h => hts w (List.mem_cons_of_mem _ h)
  have hown : s.vm.findClass "EdgeWear" = some m.cls := findClass_of_methodNamed B.named
  have hlocks := B.notSynchronized
  subst hsz
  have hm := mS.start hw0
  have hA : ∀ q : Nat, s.heap.size ≤ q → mA ad G s.heap.size q := fun q h => Or.inr h
  have hl := lv_entry ([.ref (ad 0), .int p0, .int p1]) (n := 6) (Nat.le_of_ble_eq_true rfl)
  rw [lg_entry_eq]
  generalize (lg_sl ([.ref (ad 0), .int p0, .int p1]) ++ List.replicate (6 - (lg_sl ([.ref (ad 0), .int p0, .int p1])).length) Slot.unset).toArray = ls at hl ⊢
  have hl : lv_has ls 6 [(0, .ref (ad 0)), (1, .int p0), (2, .int p1)] := hl
  have hm : mS D mCl (mA ad G s.heap.size) s.heap ad (gE dA ad I J F si tc oc G0) s.heap [] := by rw [← hG]; exact hm
  refine lv_iconst (v := 0) hx hb d_E_closeDue_0 (by decide) ?_
  refine lv_istore_n (lv' := [(3, .int 0), (0, .ref (ad 0)), (1, .int p0), (2, .int p1)]) hx hb d_E_closeDue_1 rfl hl (by decide) rfl (fun ls hl => ?_)
  refine lv_iconst (v := 0) hx hb d_E_closeDue_2 (by decide) ?_
  refine lv_istore (lv' := [(4, .int 0), (3, .int 0), (0, .ref (ad 0)), (1, .int p0), (2, .int p1)]) hx hb d_E_closeDue_3 hl (by decide) rfl (fun ls hl => ?_)
  refine m_loopH (nL := 6) (head := 5) (fun (q9 : Nat) => fun (x : Nat) => match x with | j => q9 + j = 17 ∧ j ≤ 16 ∧ True) (fun (x : Nat) => match x with | j => [(0, .ref (ad 0)), (1, .int p0), (2, .int p1), (3, .int (nI (eCnt (eDu I oc p0 p1) j))), (4, .int (nI j))]) (fun (x : Nat) => match x with | j => gE dA ad (eCl I oc p0 p1 j) J F si tc oc G0) (fun j h => by have h1 := h.1; have h2 := h.2.1; omega) (fun q9 x ls H locs hI hl hm ih5 => ?_) (16) (0) (⟨by omega, by omega, trivial⟩) (lv_sub hl [2, 3, 4, 1, 0] rfl) hm
  obtain ⟨j, ej⟩ : ∃ z, z = x := ⟨_, rfl⟩
  subst ej
  replace hI : (fun (q9 : Nat) => q9 + j = 17 ∧ j ≤ 16 ∧ True) (q9 + 1) := hI
  have hl : lv_has ls 6 [(0, .ref (ad 0)), (1, .int p0), (2, .int p1), (3, .int (nI (eCnt (eDu I oc p0 p1) j))), (4, .int (nI j))] := hl
  obtain ⟨Gj, hG⟩ : ∃ z : mG, z = gE dA ad (eCl I oc p0 p1 j) J F si tc oc G0 := ⟨_, rfl⟩
  have hm : mS D mCl (mA ad G s.heap.size) s.heap ad Gj H locs := by rw [hG]; exact hm
  refine lv_iload hx hb d_E_closeDue_5 (lv_at hl 4 rfl) ?_
  refine lv_aload_n hx hb d_E_closeDue_7 rfl (lv_at hl 0 rfl) ?_
  refine m_get (v := .ref (ad 4)) (C := R_E) (T := T_E) (N := 8) hx hb hT in_E hown hC.1 hm 0 rfl ((congrFun hG 0).trans gE_c0) rfl 4 (by decide) (hT _ k_91) (fun _ h9 => h9) rfl d_E_closeDue_8 ?_
  refine m_alen (v := 16) hx hb hC.1 hm 4 rfl 5 ((congrFun hG 4).trans gE_c4) rfl rfl d_E_closeDue_11 ?_
  refine lv_icmp_ge (tgt := 54) hx hb d_E_closeDue_12 (by decide) (fun c_12 => ?_) (fun c_12 => ?_)
  · have hge : j = 16 := by
      have := (nI_leI (a := 16) (by decide) (by omega)).mp c_12
      omega
    rw [hG] at hm
    refine lv_iload_n hx hb d_E_closeDue_54 rfl (lv_at hl 3 rfl) ?_
    exact m_iret (v := nI (eCnt (eDu I oc p0 p1) j)) hx hb hr hm (⟨by rw [hge], by rw [hge]⟩) d_E_closeDue_55 hlocks
  · have hj16 : j < 16 := (nI_ltI (b := 16) (by omega) (by decide)).mp (Int32.not_le.mp c_12)
    refine lv_aload_n hx hb d_E_closeDue_15 rfl (lv_at hl 0 rfl) ?_
    refine m_get (v := .ref (ad 4)) (C := R_E) (T := T_E) (N := 8) hx hb hT in_E hown hC.1 hm 0 rfl ((congrFun hG 0).trans gE_c0) rfl 4 (by decide) (hT _ k_91) (fun _ h9 => h9) rfl d_E_closeDue_16 ?_
    refine lv_iload hx hb d_E_closeDue_19 (lv_at hl 4 rfl) ?_
    by_cases htc : j < oc
    · have z11 : eCl I oc p0 p1 j 11 j = I 11 j := eCl_ne (Or.inr (Nat.le_refl j))
      have z12 : eCl I oc p0 p1 j 12 j = I 12 j := eCl_ne (Or.inr (Nat.le_refl j))
      have z13 : eCl I oc p0 p1 j 13 j = I 13 j := eCl_ne (Or.inr (Nat.le_refl j))
      have hgo : Gj (400 + j) = some (.inr (0, [.int (I 11 j), .int (I 12 j), .int (I 13 j)])) := by
        rw [hG, gE_od htc ht ho, z11, z12, z13]
      refine m_aald (v := .ref (ad (400 + j))) hx hb hC.1 hm 4 rfl 5 ((congrFun hG 4).trans gE_c4) rfl (vp_in_nI (by omega) (by decide)) (by rw [nI_clamp (by omega)]; simp only [htc, if_true]; rfl) d_E_closeDue_21 ?_
      refine lv_astore (lv' := [(5, .ref (ad (400 + j))), (0, .ref (ad 0)), (1, .int p0), (2, .int p1), (3, .int (nI (eCnt (eDu I oc p0 p1) j))), (4, .int (nI j))]) hx hb d_E_closeDue_22 hl (by decide) rfl (fun ls hl => ?_)
      refine lv_aload hx hb d_E_closeDue_24 (lv_at hl 0 rfl) ?_
      refine lv_ifnull hx hb d_E_closeDue_26 ?_
      refine lv_aload hx hb d_E_closeDue_29 (lv_at hl 0 rfl) ?_
      refine lv_iload_n hx hb d_E_closeDue_31 rfl (lv_at hl 2 rfl) ?_
      refine lv_iload_n hx hb d_E_closeDue_32 rfl (lv_at hl 3 rfl) ?_
      refine m_roi (m_runV (As := [.int p0, .int p1]) (rest := []) ⟨hx, hb, hml, hown, hts⟩ (c_Or_isDue l D dA ad Gj H.size (400 + j) (I 11 j) (I 12 j) (I 13 j) p0 p1 (hgo)) (cwV 2 hts (gV k_564 k_561 k_562 k_563 k_15) rfl rfl rfl (by decide +kernel) ⟨Nat.le_of_ble_eq_true rfl, Nat.le_of_ble_eq_true rfl⟩) hm hA hC (400 + j) rfl hgo rfl rfl rfl hl.1 rfl (Nat.le_of_ble_eq_true rfl) d_E_closeDue_33 ⟨Nat.le_of_ble_eq_true rfl, Nat.le_of_ble_eq_true rfl⟩) hm hA (fun r_1 H locs w_2 hm => ?_)
      refine lv_if_eq (tgt := 48) hx hb d_E_closeDue_36 (by decide) (fun c_36 => ?_) (fun c_36 => ?_)
      · have hP : ¬ eDu I oc p0 p1 j = true := fun h => by
          have h8 := of_decide_eq_true h
          have h9 := w_2
          rw [if_pos h8.2] at h9
          rw [h9] at c_36
          exact absurd c_36 (by decide)
        have hm : mS D mCl (mA ad G s.heap.size) s.heap ad (gE dA ad (eCl I oc p0 p1 (j + 1)) J F si tc oc G0) H locs := by
          rw [show eCl I oc p0 p1 (j + 1) = eCl I oc p0 p1 j from if_neg hP, ← hG]
          exact hm
        have hl : lv_has ls 6 [(5, .ref (ad (400 + j))), (0, .ref (ad 0)), (1, .int p0), (2, .int p1), (3, .int (nI (eCnt (eDu I oc p0 p1) (j + 1)))), (4, .int (nI j))] := by rw [eCnt_neg hP]; exact hl
        refine lv_iinc (v := nI (j + 1)) (lv' := [(4, .int (nI (j + 1))), (5, .ref (ad (400 + j))), (0, .ref (ad 0)), (1, .int p0), (2, .int p1), (3, .int (nI (eCnt (eDu I oc p0 p1) (j + 1))))]) hx hb d_E_closeDue_48 hl (k := 5) rfl (nI_1 _) (by decide) rfl (fun ls hl => ?_)
        refine lv_goto (tgt := 5) hx hb d_E_closeDue_51 (by decide) ?_
        exact ih5 (j + 1) ls H locs (⟨by omega, by omega, trivial⟩) (lv_sub hl [2, 3, 4, 5, 0] rfl) hm
      · refine lv_aload hx hb d_E_closeDue_39 (lv_at hl 0 rfl) ?_
        refine lv_iconst (v := 1) hx hb d_E_closeDue_41 (by decide) ?_
        refine m_put (v := .int 1) (ty := .boolean) (C := R_Or) (T := T_Or) (N := 3) hx hb hT in_Or t_Or tok_Or nm_Or hown hC.1 hm (400 + j) rfl hgo rfl 2 (by decide) (hT _ k_542) (fun _ h9 => h9) rfl (by decide +kernel) rfl rfl (Nat.le_of_ble_eq_true rfl) d_E_closeDue_42 (fun H locs hm => ?_)
        obtain ⟨G_3, eG_3⟩ : ∃ z : mG, z = va_up Gj (400 + j) (some (.inr (0, [.int (I 11 j), .int (I 12 j), .int 1]))) := ⟨_, rfl⟩
        have hm : mS D mCl (mA ad G s.heap.size) s.heap ad G_3 H locs := by rw [eG_3]; exact hm
        have g_4 := (congrFun eG_3 0).trans ((va_up_ne _ _ (by omega)).trans ((congrFun hG 0).trans gE_c0))
        have g_5 := (congrFun eG_3 1).trans ((va_up_ne _ _ (by omega)).trans ((congrFun hG 1).trans gE_c1))
        have g_6 := (congrFun eG_3 2).trans ((va_up_ne _ _ (by omega)).trans ((congrFun hG 2).trans gE_c2))
        have g_7 := (congrFun eG_3 3).trans ((va_up_ne _ _ (by omega)).trans ((congrFun hG 3).trans gE_c3))
        have g_8 := (congrFun eG_3 4).trans ((va_up_ne _ _ (by omega)).trans ((congrFun hG 4).trans gE_c4))
        have g_9 := (congrFun eG_3 5).trans ((va_up_ne _ _ (by omega)).trans ((congrFun hG 5).trans gE_c5))
        have g_10 : G_3 (400 + j) = some (.inr (0, [.int (I 11 j), .int (I 12 j), .int 1])) := by rw [eG_3, va_up_self]
        refine lv_iinc (v := nI ((eCnt (eDu I oc p0 p1) j) + 1)) (lv' := [(3, .int (nI ((eCnt (eDu I oc p0 p1) j) + 1))), (5, .ref (ad (400 + j))), (0, .ref (ad 0)), (1, .int p0), (2, .int p1), (4, .int (nI j))]) hx hb d_E_closeDue_45 hl (k := 4) rfl (nI_1 _) (by decide) rfl (fun ls hl => ?_)
        have hP : eDu I oc p0 p1 j = true := decide_eq_true (Classical.byContradiction (fun hq => c_36 (by rw [w_2, if_neg (fun h => hq ⟨htc, h⟩)])))
        have hm : mS D mCl (mA ad G s.heap.size) s.heap ad (gE dA ad (eCl I oc p0 p1 (j + 1)) J F si tc oc G0) H locs := by
          have h9 : G_3 = gE dA ad (eCl I oc p0 p1 (j + 1)) J F si tc oc G0 := by
            rw [eG_3, hG, ← z11, ← z12, gE_uorder htc ht ho]
            rw [show eCl I oc p0 p1 (j + 1) = up2 (eCl I oc p0 p1 j) 13 j 1 from if_pos hP]
          rw [← h9]
          exact hm
        have hl : lv_has ls 6 [(3, .int (nI (eCnt (eDu I oc p0 p1) (j + 1)))), (5, .ref (ad (400 + j))), (0, .ref (ad 0)), (1, .int p0), (2, .int p1), (4, .int (nI j))] := by rw [eCnt_pos hP]; exact hl
        refine lv_iinc (v := nI (j + 1)) (lv' := [(4, .int (nI (j + 1))), (3, .int (nI (eCnt (eDu I oc p0 p1) (j + 1)))), (5, .ref (ad (400 + j))), (0, .ref (ad 0)), (1, .int p0), (2, .int p1)]) hx hb d_E_closeDue_48 hl (k := 5) rfl (nI_1 _) (by decide) rfl (fun ls hl => ?_)
        refine lv_goto (tgt := 5) hx hb d_E_closeDue_51 (by decide) ?_
        exact ih5 (j + 1) ls H locs (⟨by omega, by omega, trivial⟩) (lv_sub hl [3, 4, 5, 1, 0] rfl) hm
    · refine m_aald (v := .null) hx hb hC.1 hm 4 rfl 5 ((congrFun hG 4).trans gE_c4) rfl (vp_in_nI (by omega) (by decide)) (by rw [nI_clamp (by omega)]; simp only [htc, if_false]; rfl) d_E_closeDue_21 ?_
      refine lv_astoreN (lv' := [(5, .null), (0, .ref (ad 0)), (1, .int p0), (2, .int p1), (3, .int (nI (eCnt (eDu I oc p0 p1) j))), (4, .int (nI j))]) hx hb d_E_closeDue_22 hl (by decide) rfl (fun ls hl => ?_)
      refine lv_aloadN hx hb d_E_closeDue_24 (lv_at hl 0 rfl) ?_
      refine lv_ifnullN (tgt := 48) hx hb d_E_closeDue_26 (by decide) ?_
      have hP : ¬ eDu I oc p0 p1 j = true := fun h => htc (of_decide_eq_true h).1
      have hm : mS D mCl (mA ad G s.heap.size) s.heap ad (gE dA ad (eCl I oc p0 p1 (j + 1)) J F si tc oc G0) H locs := by
        rw [show eCl I oc p0 p1 (j + 1) = eCl I oc p0 p1 j from if_neg hP, ← hG]
        exact hm
      have hl : lv_has ls 6 [(5, .null), (0, .ref (ad 0)), (1, .int p0), (2, .int p1), (3, .int (nI (eCnt (eDu I oc p0 p1) (j + 1)))), (4, .int (nI j))] := by rw [eCnt_neg hP]; exact hl
      refine lv_iinc (v := nI (j + 1)) (lv' := [(4, .int (nI (j + 1))), (5, .null), (0, .ref (ad 0)), (1, .int p0), (2, .int p1), (3, .int (nI (eCnt (eDu I oc p0 p1) (j + 1))))]) hx hb d_E_closeDue_48 hl (k := 5) rfl (nI_1 _) (by decide) rfl (fun ls hl => ?_)
      refine lv_goto (tgt := 5) hx hb d_E_closeDue_51 (by decide) ?_
      exact ih5 (j + 1) ls H locs (⟨by omega, by omega, trivial⟩) (lv_sub hl [2, 3, 4, 5, 0] rfl) hm
end
section
def eIx (z : Int64) (kc : Nat) : Nat := (z.toBitVec.toNat / 2) % kc
theorem eIx_lt (z : Int64) {kc : Nat} (h1 : 1 ≤ kc) : eIx z kc < kc := Nat.mod_lt _ h1
theorem eIx_spec (z : Int64) {kc : Nat} (h1 : 1 ≤ kc) (h2 : kc ≤ 40) : (eSh z 1 - eSh z 1 / (nI kc).toInt64 * (nI kc).toInt64).toInt32 = nI (eIx z kc) := by
  have hz : z = lN z.toBitVec.toNat := wb_inj (by rw [wb_tb]; simp)
  have hn : z.toBitVec.toNat < 2 ^ 64 := z.toBitVec.isLt
  have e1 : eSh z 1 = lN (z.toBitVec.toNat / 2) := by
    have h := wb_shr (k := 1) hn (by decide)
    rw [← hz] at h
    exact h
  rw [e1, nI_l (by omega), pk_lRem (by omega) (by omega) (by omega), lN_i]
  rfl
def eSq (p0 p1 p2 : Int32) : Int64 := 4 * p0.toInt64 * p0.toInt64 * p1.toInt64 * (p2 - p1).toInt64
def eChip (p0 p1 p2 p3 : Int32) : Int32 := if p3 = 1 ∧ (eTh (eSq p0 p1 p2) p2 20 0).toInt64 * p2.toInt64 * ((eTh (eSq p0 p1 p2) p2 20 0).toInt64 * p2.toInt64) < eSq p0 p1 p2 then eTh (eSq p0 p1 p2) p2 20 0 + 1 else eTh (eSq p0 p1 p2) p2 20 0
theorem eTh_s {sq : Int64} {w : Int32} {n : Nat} {x : Int32} : eTh sq w (n + 1) x = if sq < (x + nI (2 ^ n)).toInt64 * w.toInt64 * ((x + nI (2 ^ n)).toInt64 * w.toInt64) then eTh sq w n x else eTh sq w n (x + nI (2 ^ n)) := rfl
end
section
set_option maxHeartbeats 4000000 in
set_option maxRecDepth 100000 in
theorem c_E_joined (l : Launch) (hlt : l.stackTraces = false) (D : va_G) (dA : Nat → ClassId) (ad : Nat → Nat) (G : mG) (sz : Nat) (I : Nat → Nat → Int32) (J : Nat → Nat → Int64) (F : Nat → Nat → Nat → Int32) (si : Nat → Nat) (tc oc : Nat) (G0 : mG) (hG : G = gE dA ad I J F si tc oc G0) (ht : tc ≤ 12) (ho : oc ≤ 16) (p0 p1 : Int32) : vx_Met l y_E_joined (.code y_E_joined b_E_joined 4 (some .int) :: mBig) ({ frames := 7, cells := 2, slots := 12, locals := 104 }) (mPc [.ref (ad 0), .int p0, .int p1] D mCl (mTys dA) mTx ad G sz) (mQi (fun (rv : Int32) (u : mU) => (∃ i, i < 4 ∧ p0 = nI i ∧ ¬ (p1 < 0 ∨ 10000 < p1) ∧ ((¬ (∃ t, t < oc ∧ eDu I oc (nI i) (p1 + 2) t = true) ∧ rv = 0 ∧ u = (ad, gE dA ad I J F si tc oc G0)) ∨ ((∃ t, t < oc ∧ eDu I oc (nI i) (p1 + 2) t = true) ∧ rv = nI (eCnt (eDu I oc (nI i) (p1 + 7)) 16) ∧ u = (ad, gE dA ad (eCl I oc (nI i) (p1 + 7) 16) J F si tc oc G0))))) D mCl ad G sz) (mXC (fun (E : String) (u : mU) => ((E = "java/lang/IndexOutOfBoundsException" ∧ ¬ ∃ i, i < 4 ∧ p0 = nI i) ∨ (E = "java/lang/IllegalArgumentException" ∧ (∃ i, i < 4 ∧ p0 = nI i) ∧ (p1 < 0 ∨ 10000 < p1))) ∧ u = (ad, G)) D mCl ad G sz) 2 12 (mA ad G sz) := by
  refine vx_ofW (cc := b_E_joined) (maxL := 4) (ret := (some .int)) (by decide) rfl ?_
  intro p e s m args below meth c s₁ B hml hout hv
  obtain ⟨rfl, hsz, hw0, hC⟩ := hv
  have hx := B.exec
  have hb := B.bytes
  have hr := B.returns
  have hts := atoms_spec (ws := .code y_E_joined b_E_joined 4 (some .int) :: mBig) B.pre
  have hT : ∀ w ∈ mBig, w.before _ s = true := fun w h => hts w (List.mem_cons_of_mem _ h)
  have hown : s.vm.findClass "EdgeWear" = some m.cls := findClass_of_methodNamed B.named
  have hlocks := B.notSynchronized
  subst hsz
  have hm := mS.start hw0
  have hA : ∀ q : Nat, s.heap.size ≤ q → mA ad G s.heap.size q := fun q h => Or.inr h
  have hl := lv_entry ([.ref (ad 0), .int p0, .int p1]) (n := 4) (Nat.le_of_ble_eq_true rfl)
  rw [lg_entry_eq]
  generalize (lg_sl ([.ref (ad 0), .int p0, .int p1]) ++ List.replicate (4 - (lg_sl ([.ref (ad 0), .int p0, .int p1])).length) Slot.unset).toArray = ls at hl ⊢
  have hl : lv_has ls 4 [(0, .ref (ad 0)), (1, .int p0), (2, .int p1)] := hl
  refine lv_aload_n hx hb d_E_joined_0 rfl (lv_at hl 0 rfl) ?_
  refine lv_iload_n hx hb d_E_joined_1 rfl (lv_at hl 1 rfl) ?_
  refine x_roq (x_runV (As := [.int p0]) (rest := []) ⟨hx, hb, hml, hown, hts⟩ (c_E_sortAt l hlt D dA ad G s.heap.size I J F si tc oc G0 hG ht p0) (cwV 1 hts (gV k_132 k_129 k_131 ks_0 k_1) rfl rfl rfl (by decide +kernel) ⟨Nat.le_of_ble_eq_true rfl, Nat.le_of_ble_eq_true rfl⟩) hm hA hC 0 rfl ((congrFun hG 0).trans gE_c0) rfl rfl rfl hl.1 rfl (Nat.le_of_ble_eq_true rfl) d_E_joined_2 ⟨Nat.le_of_ble_eq_true rfl, Nat.le_of_ble_eq_true rfl⟩) hm hA (fun E ce q9 H locs w_2 hm h7 h8 h9 => ?_) (fun r_1 H locs w_2 hm => ?_)
  · exact m_out hout hlocks hm h7 h8 h9 (by
      obtain ⟨rfl, hq⟩ := w_2
      exact ⟨Or.inl ⟨rfl, hq⟩, rfl⟩) (by decide) (by decide)
  · obtain ⟨i, hi, epi, er⟩ := w_2
    subst er
    rw [show va_rf (some (ad (10 + i))) = .ref (ad (10 + i)) from rfl]
    refine m_get (v := .int (nI i)) (C := R_So) (T := T_So) (N := 6) hx hb hT in_So hown hC.1 hm (10 + i) rfl ((congrFun hG (10 + i)).trans (gE_so hi)) rfl 0 (by decide) (hT _ k_34) (fun _ h9 => h9) rfl d_E_joined_5 ?_
    refine lv_istore_n (lv' := [(3, .int (nI i)), (0, .ref (ad 0)), (1, .int p0), (2, .int p1)]) hx hb d_E_joined_8 rfl hl (by decide) rfl (fun ls hl => ?_)
    refine lv_iload_n hx hb d_E_joined_9 rfl (lv_at hl 3 rfl) ?_
    refine lv_if_lt (tgt := 20) hx hb d_E_joined_10 (by decide) (fun c_10 => ?_) (fun c_10 => ?_)
    · exact m_throwS (cls := "java/lang/IllegalArgumentException") (text := "day is not 0 .. 10000") (names := ["java/lang/RuntimeException", "java/lang/Exception"]) (tx := mTx) hx hb hlt hown (by decide +kernel) (by decide +kernel) (hT _ k_202) (hT _ k_9) (by decide +kernel) hC (at_IllegalArgumentException hT hC.2.2.2) (good_IllegalArgumentException) hm (hl.1.trans hml.symm) d_E_joined_20 d_E_joined_23 d_E_joined_24 d_E_joined_26 d_E_joined_29 hout (Nat.le_of_ble_eq_true rfl) (Nat.le_of_ble_eq_true rfl) (Nat.le_of_ble_eq_true rfl) (Nat.le_of_ble_eq_true rfl) hlocks (⟨Or.inr ⟨rfl, ⟨i, hi, epi⟩, Or.inl c_10⟩, rfl⟩) (Nat.le_of_ble_eq_true rfl) (Nat.le_of_ble_eq_true rfl)
    · refine lv_iload_n hx hb d_E_joined_13 rfl (lv_at hl 3 rfl) ?_
      refine lv_sipush (v := 10000) hx hb d_E_joined_14 (by decide) ?_
      refine lv_icmp_le (tgt := 30) hx hb d_E_joined_17 (by decide) (fun c_17 => ?_) (fun c_17 => ?_)
      · refine lv_aload_n hx hb d_E_joined_30 rfl (lv_at hl 1 rfl) ?_
        refine lv_iload_n hx hb d_E_joined_31 rfl (lv_at hl 0 rfl) ?_
        refine lv_iload_n hx hb d_E_joined_32 rfl (lv_at hl 3 rfl) ?_
        refine lv_iconst (v := 2) hx hb d_E_joined_33 (by decide) ?_
        refine lv_iadd hx hb d_E_joined_34 ?_
        refine lv_topi (fun x_3 ex_3 => ?_)
        refine m_roi (m_runV (As := [.int (nI i), .int x_3]) (rest := []) ⟨hx, hb, hml, hown, hts⟩ (c_E_isAnyDue l D dA ad G H.size I J F si tc oc G0 hG ht ho (nI i) x_3) (cwV 2 hts (gV k_560 k_557 k_559 ks_5 k_1) rfl rfl rfl (by decide +kernel) ⟨Nat.le_of_ble_eq_true rfl, Nat.le_of_ble_eq_true rfl⟩) hm hA hC 0 rfl ((congrFun hG 0).trans gE_c0) rfl rfl rfl hl.1 rfl (Nat.le_of_ble_eq_true rfl) d_E_joined_35 ⟨Nat.le_of_ble_eq_true rfl, Nat.le_of_ble_eq_true rfl⟩) hm hA (fun r_4 H locs w_5 hm => ?_)
        refine lv_if_ne (tgt := 43) hx hb d_E_joined_38 (by decide) (fun c_38 => ?_) (fun c_38 => ?_)
        · refine lv_aload_n hx hb d_E_joined_43 rfl (lv_at hl 1 rfl) ?_
          refine lv_iload_n hx hb d_E_joined_44 rfl (lv_at hl 0 rfl) ?_
          refine lv_iload_n hx hb d_E_joined_45 rfl (lv_at hl 3 rfl) ?_
          refine lv_bipush (v := 7) hx hb d_E_joined_46 (by decide) ?_
          refine lv_iadd hx hb d_E_joined_48 ?_
          refine lv_topi (fun x_6 ex_6 => ?_)
          refine m_calli (m_runV (As := [.int (nI i), .int x_6]) (rest := []) ⟨hx, hb, hml, hown, hts⟩ (c_E_closeDue l D dA ad G H.size I J F si tc oc G0 hG ht ho (nI i) x_6) (cwV 2 hts (gV k_568 k_565 k_567 ks_6 k_1) rfl rfl rfl (by decide +kernel) ⟨Nat.le_of_ble_eq_true rfl, Nat.le_of_ble_eq_true rfl⟩) hm hA hC 0 rfl ((congrFun hG 0).trans gE_c0) rfl rfl rfl hl.1 rfl (Nat.le_of_ble_eq_true rfl) d_E_joined_49 ⟨Nat.le_of_ble_eq_true rfl, Nat.le_of_ble_eq_true rfl⟩) hm hA (fun r_7 ad_10 G_9 H locs w_8 hm => ?_)
          refine W.widen (k := 2) (n := 12) (by omega) (by omega) ?_
          refine vx_ret ?_
          exact m_iret (v := r_7) hx hb hr hm (⟨i, hi, epi, fun h => h.elim c_10 (fun h => Int32.not_lt.mpr c_17 h), Or.inr ⟨by have h9 := bv_ne w_5 c_38; rw [ex_3] at h9; exact h9, by have h9 := w_8.1; rw [ex_6] at h9; exact h9, by have h9 := w_8.2; rw [ex_6] at h9; exact h9⟩⟩) d_E_joined_52 hlocks
        · refine lv_iconst (v := 0) hx hb d_E_joined_41 (by decide) ?_
          refine W.widen (k := 2) (n := 12) (by omega) (by omega) ?_
          refine vx_ret ?_
          exact m_iret (v := 0) hx hb hr hm (⟨i, hi, epi, fun h => h.elim c_10 (fun h => Int32.not_lt.mpr c_17 h), Or.inl ⟨by have h9 := bv_eq w_5 c_38; rw [ex_3] at h9; exact h9, rfl, by rw [hG]⟩⟩) d_E_joined_42 hlocks
      · exact m_throwS (cls := "java/lang/IllegalArgumentException") (text := "day is not 0 .. 10000") (names := ["java/lang/RuntimeException", "java/lang/Exception"]) (tx := mTx) hx hb hlt hown (by decide +kernel) (by decide +kernel) (hT _ k_202) (hT _ k_9) (by decide +kernel) hC (at_IllegalArgumentException hT hC.2.2.2) (good_IllegalArgumentException) hm (hl.1.trans hml.symm) d_E_joined_20 d_E_joined_23 d_E_joined_24 d_E_joined_26 d_E_joined_29 hout (Nat.le_of_ble_eq_true rfl) (Nat.le_of_ble_eq_true rfl) (Nat.le_of_ble_eq_true rfl) (Nat.le_of_ble_eq_true rfl) hlocks (⟨Or.inr ⟨rfl, ⟨i, hi, epi⟩, Or.inr (Int32.not_le.mp c_17)⟩, rfl⟩) (Nat.le_of_ble_eq_true rfl) (Nat.le_of_ble_eq_true rfl)

set_option maxHeartbeats 4000000 in
set_option maxRecDepth 100000 in
theorem c_E_mixed (l : Launch) (D : va_G) (dA : Nat → ClassId) (ad : Nat → Nat) (G : mG) (sz : Nat) (I : Nat → Nat → Int32) (J : Nat → Nat → Int64) (F : Nat → Nat → Nat → Int32) (si : Nat → Nat) (tc oc : Nat) (G0 : mG) (hG : G = gE dA ad I J F si tc oc G0) (ht : tc ≤ 12) (p0 p1 : Int32) : Met l y_E_mixed (.code y_E_mixed b_E_mixed 5 (some .long) :: mBig) ({ frames := 0, cells := 0, slots := 0, locals := 0 }) (mPc [.ref (ad 0), .int p0, .int p1] D mCl (mTys dA) mTx ad G sz) (mQl (fun (rv : Int64) (u : mU) => (rv = eMix (I 0 0).toInt64 p0 p1) ∧ u = (ad, G)) D mCl ad G sz) 0 0 (mA ad G sz) := by
  refine Met.ofW (cc := b_E_mixed) (maxL := 5) (ret := (some .long)) (by decide) rfl ?_
  intro p e s m args below meth c s₁ B hml hv
  obtain ⟨rfl, hsz, hw0, hC⟩ := hv
  have hx := B.exec
  have hb := B.bytes
  have hr := B.returns
  have hts := atoms_spec (ws := .code y_E_mixed b_E_mixed 5 (some .long) :: mBig) B.pre
  have hT : ∀ w ∈ mBig, w.before _ s = true := fun w h => hts w (List.mem_cons_of_mem _ h)
  have hown : s.vm.findClass "EdgeWear" = some m.cls := findClass_of_methodNamed B.named
  have hlocks := B.notSynchronized
  subst hsz
  have hm := mS.start hw0
  have hA : ∀ q : Nat, s.heap.size ≤ q → mA ad G s.heap.size q := fun q h => Or.inr h
  have hl := lv_entry ([.ref (ad 0), .int p0, .int p1]) (n := 5) (Nat.le_of_ble_eq_true rfl)
  rw [lg_entry_eq]
  generalize (lg_sl ([.ref (ad 0), .int p0, .int p1]) ++ List.replicate (5 - (lg_sl ([.ref (ad 0), .int p0, .int p1])).length) Slot.unset).toArray = ls at hl ⊢
  have hl : lv_has ls 5 [(0, .ref (ad 0)), (1, .int p0), (2, .int p1)] := hl
  refine lv_aload_n hx hb d_E_mixed_0 rfl (lv_at hl 0 rfl) ?_
  refine m_get (v := .int (I 0 0)) (C := R_E) (T := T_E) (N := 8) hx hb hT in_E hown hC.1 hm 0 rfl ((congrFun hG 0).trans gE_c0) rfl 0 (by decide) (hT _ k_87) (fun _ h9 => h9) rfl d_E_mixed_1 ?_
  refine lv_i2l hx hb d_E_mixed_4 rfl ?_
  refine lv_topl (fun x_1 ex_1 => ?_)
  refine lv_ldc2 (v := 4) hx hb hown (hT _ k_469) d_E_mixed_5 ?_
  refine lv_iload_n hx hb d_E_mixed_8 rfl (lv_at hl 2 rfl) ?_
  refine lv_i2l hx hb d_E_mixed_9 rfl ?_
  refine lv_topl (fun x_2 ex_2 => ?_)
  refine lv_lmul hx hb d_E_mixed_10 ?_
  refine lv_topl (fun x_3 ex_3 => ?_)
  refine lv_iload_n hx hb d_E_mixed_11 rfl (lv_at hl 1 rfl) ?_
  refine lv_i2l hx hb d_E_mixed_12 rfl ?_
  refine lv_topl (fun x_4 ex_4 => ?_)
  refine lv_ladd hx hb d_E_mixed_13 ?_
  refine lv_topl (fun x_5 ex_5 => ?_)
  refine lv_lconst (v := 1) hx hb d_E_mixed_14 (by decide) ?_
  refine lv_ladd hx hb d_E_mixed_15 ?_
  refine lv_topl (fun x_6 ex_6 => ?_)
  refine lv_ldc2 (v := (-7046029254386353131)) hx hb hown (hT _ k_470) d_E_mixed_16 ?_
  refine lv_lmul hx hb d_E_mixed_19 ?_
  refine lv_topl (fun x_7 ex_7 => ?_)
  refine lv_ladd hx hb d_E_mixed_20 ?_
  refine lv_topl (fun x_8 ex_8 => ?_)
  refine lv_lstore_n (lv' := [(3, .long x_8), (0, .ref (ad 0)), (1, .int p0), (2, .int p1)]) hx hb d_E_mixed_21 rfl hl (by decide) rfl (fun ls hl => ?_)
  refine lv_lload_n hx hb d_E_mixed_22 rfl (lv_at hl 0 rfl) ?_
  refine lv_lload_n hx hb d_E_mixed_23 rfl (lv_at hl 0 rfl) ?_
  refine lv_bipush (v := 30) hx hb d_E_mixed_24 (by decide) ?_
  refine lv_lushr hx hb d_E_mixed_26 rfl ?_
  refine lv_topl (fun x_9 ex_9 => ?_)
  refine lv_lxor hx hb d_E_mixed_27 ?_
  refine lv_topl (fun x_10 ex_10 => ?_)
  refine lv_ldc2 (v := (-4658895280553007687)) hx hb hown (hT _ k_471) d_E_mixed_28 ?_
  refine lv_lmul hx hb d_E_mixed_31 ?_
  refine lv_topl (fun x_11 ex_11 => ?_)
  refine lv_lstore_n (lv' := [(3, .long x_11), (0, .ref (ad 0)), (1, .int p0), (2, .int p1)]) hx hb d_E_mixed_32 rfl hl (by decide) rfl (fun ls hl => ?_)
  refine lv_lload_n hx hb d_E_mixed_33 rfl (lv_at hl 0 rfl) ?_
  refine lv_lload_n hx hb d_E_mixed_34 rfl (lv_at hl 0 rfl) ?_
  refine lv_bipush (v := 27) hx hb d_E_mixed_35 (by decide) ?_
  refine lv_lushr hx hb d_E_mixed_37 rfl ?_
  refine lv_topl (fun x_12 ex_12 => ?_)
  refine lv_lxor hx hb d_E_mixed_38 ?_
  refine lv_topl (fun x_13 ex_13 => ?_)
  refine lv_ldc2 (v := (-7723592293110705685)) hx hb hown (hT _ k_472) d_E_mixed_39 ?_
  refine lv_lmul hx hb d_E_mixed_42 ?_
  refine lv_topl (fun x_14 ex_14 => ?_)
  refine lv_lstore_n (lv' := [(3, .long x_14), (0, .ref (ad 0)), (1, .int p0), (2, .int p1)]) hx hb d_E_mixed_43 rfl hl (by decide) rfl (fun ls hl => ?_)
  refine lv_lload_n hx hb d_E_mixed_44 rfl (lv_at hl 0 rfl) ?_
  refine lv_lload_n hx hb d_E_mixed_45 rfl (lv_at hl 0 rfl) ?_
  refine lv_bipush (v := 31) hx hb d_E_mixed_46 (by decide) ?_
  refine lv_lushr hx hb d_E_mixed_48 rfl ?_
  refine lv_topl (fun x_15 ex_15 => ?_)
  refine lv_lxor hx hb d_E_mixed_49 ?_
  refine lv_topl (fun x_16 ex_16 => ?_)
  exact m_lret (v := x_16) hx hb hr hm (⟨by
    simp only [ex_16, ex_15, ex_14, ex_13, ex_12, ex_11, ex_10, ex_9, ex_8, ex_7, ex_6, ex_5, ex_4, ex_3, ex_2, ex_1]
    rfl, rfl⟩) d_E_mixed_50 hlocks

set_option maxHeartbeats 4000000 in
set_option maxRecDepth 100000 in
theorem c_E_breaks (l : Launch) (hlt : l.stackTraces = false) (D : va_G) (dA : Nat → ClassId) (ad : Nat → Nat) (G : mG) (sz : Nat) (I : Nat → Nat → Int32) (J : Nat → Nat → Int64) (F : Nat → Nat → Nat → Int32) (si : Nat → Nat) (tc oc : Nat) (G0 : mG) (hG : G = gE dA ad I J F si tc oc G0) (ht : tc ≤ 12) (hL : ∀ i, i < 4 → ∃ c, c ≤ 40 ∧ I 2 i = nI c) (p0 p1 : Int32) : vx_Met l y_E_breaks (.code y_E_breaks b_E_breaks 5 (some .int) :: mBig) ({ frames := 7, cells := 2, slots := 12, locals := 104 }) (mPc [.ref (ad 0), .int p0, .int p1] D mCl (mTys dA) mTx ad G sz) (mQi (fun (rv : Int32) (u : mU) => (∃ i kc, i < 4 ∧ p0 = nI i ∧ kc ≤ 40 ∧ I 2 i = nI kc ∧ 1 ≤ kc ∧ ¬ p1 < 0 ∧ rv = F 0 i (eIx (eMix (I 0 0).toInt64 p0 p1) kc)) ∧ u = (ad, G)) D mCl ad G sz) (mXC (fun (E : String) (u : mU) => ((E = "java/lang/IndexOutOfBoundsException" ∧ ¬ ∃ i, i < 4 ∧ p0 = nI i) ∨ (E = "java/lang/IllegalArgumentException" ∧ (∃ i, i < 4 ∧ p0 = nI i) ∧ p1 < 0) ∨ (E = "java/lang/IllegalStateException" ∧ (∃ i, i < 4 ∧ p0 = nI i ∧ I 2 i = 0) ∧ ¬ p1 < 0)) ∧ u = (ad, G)) D mCl ad G sz) 2 12 (mA ad G sz) := by
  refine vx_ofW (cc := b_E_breaks) (maxL := 5) (ret := (some .int)) (by decide) rfl ?_
  intro p e s m args below meth c s₁ B hml hout hv
  obtain ⟨rfl, hsz, hw0, hC⟩ := hv
  have hx := B.exec
  have hb := B.bytes
  have hr := B.returns
  have hts := atoms_spec (ws := .code y_E_breaks b_E_breaks 5 (some .int) :: mBig) B.pre
  have hT : ∀ w ∈ mBig, w.before _ s = true := fun w h => hts w (List.mem_cons_of_mem _ h)
  have hown : s.vm.findClass "EdgeWear" = some m.cls := findClass_of_methodNamed B.named
  have hlocks := B.notSynchronized
  subst hsz
  have hm := mS.start hw0
  have hA : ∀ q : Nat, s.heap.size ≤ q → mA ad G s.heap.size q := fun q h => Or.inr h
  have hl := lv_entry ([.ref (ad 0), .int p0, .int p1]) (n := 5) (Nat.le_of_ble_eq_true rfl)
  rw [lg_entry_eq]
  generalize (lg_sl ([.ref (ad 0), .int p0, .int p1]) ++ List.replicate (5 - (lg_sl ([.ref (ad 0), .int p0, .int p1])).length) Slot.unset).toArray = ls at hl ⊢
  have hl : lv_has ls 5 [(0, .ref (ad 0)), (1, .int p0), (2, .int p1)] := hl
  refine lv_aload_n hx hb d_E_breaks_0 rfl (lv_at hl 0 rfl) ?_
  refine lv_iload_n hx hb d_E_breaks_1 rfl (lv_at hl 1 rfl) ?_
  refine x_roq (x_runV (As := [.int p0]) (rest := []) ⟨hx, hb, hml, hown, hts⟩ (c_E_sortAt l hlt D dA ad G s.heap.size I J F si tc oc G0 hG ht p0) (cwV 1 hts (gV k_132 k_129 k_131 ks_0 k_1) rfl rfl rfl (by decide +kernel) ⟨Nat.le_of_ble_eq_true rfl, Nat.le_of_ble_eq_true rfl⟩) hm hA hC 0 rfl ((congrFun hG 0).trans gE_c0) rfl rfl rfl hl.1 rfl (Nat.le_of_ble_eq_true rfl) d_E_breaks_2 ⟨Nat.le_of_ble_eq_true rfl, Nat.le_of_ble_eq_true rfl⟩) hm hA (fun E ce q9 H locs w_2 hm h7 h8 h9 => ?_) (fun r_1 H locs w_2 hm => ?_)
  · exact m_out hout hlocks hm h7 h8 h9 (by
      obtain ⟨rfl, hq⟩ := w_2
      exact ⟨Or.inl ⟨rfl, hq⟩, rfl⟩) (by decide) (by decide)
  · obtain ⟨i, hi, epi, er⟩ := w_2
    subst er
    rw [show va_rf (some (ad (10 + i))) = .ref (ad (10 + i)) from rfl]
    refine lv_astore_n (lv' := [(3, .ref (ad (10 + i))), (0, .ref (ad 0)), (1, .int p0), (2, .int p1)]) hx hb d_E_breaks_5 rfl hl (by decide) rfl (fun ls hl => ?_)
    obtain ⟨kc, hkc, ekc⟩ := hL i hi
    refine lv_iload_n hx hb d_E_breaks_6 rfl (lv_at hl 3 rfl) ?_
    refine lv_if_ge (tgt := 20) hx hb d_E_breaks_7 (by decide) (fun c_7 => ?_) (fun c_7 => ?_)
    · refine lv_aload_n hx hb d_E_breaks_20 rfl (lv_at hl 0 rfl) ?_
      refine m_get (v := .int (I 2 i)) (C := R_So) (T := T_So) (N := 6) hx hb hT in_So hown hC.1 hm (10 + i) rfl ((congrFun hG (10 + i)).trans (gE_so hi)) rfl 2 (by decide) (hT _ k_38) (fun _ h9 => h9) rfl d_E_breaks_21 ?_
      refine lv_if_ne (tgt := 37) hx hb d_E_breaks_24 (by decide) (fun c_24 => ?_) (fun c_24 => ?_)
      · have hk0 : ¬ kc = 0 := fun q => c_24 (by rw [ekc, q]; rfl)
        have hk1 : 1 ≤ kc := Nat.pos_of_ne_zero hk0
        refine lv_aload_n hx hb d_E_breaks_37 rfl (lv_at hl 1 rfl) ?_
        refine lv_iload_n hx hb d_E_breaks_38 rfl (lv_at hl 2 rfl) ?_
        refine lv_iload_n hx hb d_E_breaks_39 rfl (lv_at hl 3 rfl) ?_
        refine m_rol (m_runV (As := [.int p0, .int p1]) (rest := []) ⟨hx, hb, hml, hown, hts⟩ (c_E_mixed l D dA ad G H.size I J F si tc oc G0 hG ht p0 p1) (cwV 2 hts (gV k_468 k_465 k_467 ks_4 k_1) rfl rfl rfl (by decide +kernel) ⟨Nat.le_of_ble_eq_true rfl, Nat.le_of_ble_eq_true rfl⟩) hm hA hC 0 rfl ((congrFun hG 0).trans gE_c0) rfl rfl rfl hl.1 rfl (Nat.le_of_ble_eq_true rfl) d_E_breaks_40 ⟨Nat.le_of_ble_eq_true rfl, Nat.le_of_ble_eq_true rfl⟩) hm hA (fun r_3 H locs w_4 hm => ?_)
        refine lv_iconst (v := 1) hx hb d_E_breaks_43 (by decide) ?_
        refine lv_lushr hx hb d_E_breaks_44 rfl ?_
        refine lv_topl (fun x_5 ex_5 => ?_)
        refine lv_aload_n hx hb d_E_breaks_45 rfl (lv_at hl 0 rfl) ?_
        refine m_get (v := .int (I 2 i)) (C := R_So) (T := T_So) (N := 6) hx hb hT in_So hown hC.1 hm (10 + i) rfl ((congrFun hG (10 + i)).trans (gE_so hi)) rfl 2 (by decide) (hT _ k_38) (fun _ h9 => h9) rfl d_E_breaks_46 ?_
        refine lv_i2l hx hb d_E_breaks_49 rfl ?_
        refine lv_topl (fun x_6 ex_6 => ?_)
        refine lv_lrem hx hb d_E_breaks_50 (by rw [ex_6, ekc, nI_l (by omega)]; exact fun q => hk0 ((pk_lEQ (b := 0) (by omega) (by decide)).mp q)) ?_
        refine lv_topl (fun x_7 ex_7 => ?_)
        refine lv_l2i hx hb d_E_breaks_51 rfl ?_
        refine lv_topi (fun x_8 ex_8 => ?_)
        have hix : x_8 = nI (eIx (eMix (I 0 0).toInt64 p0 p1) kc) := by
          rw [ex_8, ex_7, ex_6, ex_5, w_4, ekc]
          exact eIx_spec _ hk1 hkc
        refine lv_istore (lv' := [(4, .int x_8), (3, .ref (ad (10 + i))), (0, .ref (ad 0)), (1, .int p0), (2, .int p1)]) hx hb d_E_breaks_52 hl (by decide) rfl (fun ls hl => ?_)
        refine lv_aload_n hx hb d_E_breaks_54 rfl (lv_at hl 1 rfl) ?_
        refine m_get (v := .ref (ad (20 + i))) (C := R_So) (T := T_So) (N := 6) hx hb hT in_So hown hC.1 hm (10 + i) rfl ((congrFun hG (10 + i)).trans (gE_so hi)) rfl 1 (by decide) (hT _ k_36) (fun _ h9 => h9) rfl d_E_breaks_55 ?_
        refine lv_iload hx hb d_E_breaks_58 (lv_at hl 0 rfl) ?_
        refine m_iald (v := F 0 i (eIx (eMix (I 0 0).toInt64 p0 p1) kc)) hx hb hC.1 hm (20 + i) rfl 0 ((congrFun hG (20 + i)).trans (gE_li hi)) rfl (by rw [hix]; exact vp_in_nI (Nat.lt_of_lt_of_le (eIx_lt _ hk1) hkc) (by decide)) (by rw [hix, nI_clamp (Nat.lt_of_lt_of_le (eIx_lt _ hk1) (by omega))]) d_E_breaks_60 ?_
        refine W.widen (k := 2) (n := 12) (by omega) (by omega) ?_
        refine vx_ret ?_
        exact m_iret (v := F 0 i (eIx (eMix (I 0 0).toInt64 p0 p1) kc)) hx hb hr hm (⟨⟨i, kc, hi, epi, hkc, ekc, hk1, Int32.not_lt.mpr c_7, rfl⟩, rfl⟩) d_E_breaks_61 hlocks
      · exact m_throwS (cls := "java/lang/IllegalStateException") (text := "no lives") (names := ["java/lang/RuntimeException", "java/lang/Exception"]) (tx := mTx) hx hb hlt hown (by decide +kernel) (by decide +kernel) (hT _ k_218) (hT _ k_10) (by decide +kernel) hC (at_IllegalStateException hT hC.2.2.2) (good_IllegalStateException) hm (hl.1.trans hml.symm) d_E_breaks_27 d_E_breaks_30 d_E_breaks_31 d_E_breaks_33 d_E_breaks_36 hout (Nat.le_of_ble_eq_true rfl) (Nat.le_of_ble_eq_true rfl) (Nat.le_of_ble_eq_true rfl) (Nat.le_of_ble_eq_true rfl) hlocks (⟨Or.inr (Or.inr ⟨rfl, ⟨i, hi, epi, c_24⟩, Int32.not_lt.mpr c_7⟩), rfl⟩) (Nat.le_of_ble_eq_true rfl) (Nat.le_of_ble_eq_true rfl)
    · exact m_throwS (cls := "java/lang/IllegalArgumentException") (text := "k is below 0") (names := ["java/lang/RuntimeException", "java/lang/Exception"]) (tx := mTx) hx hb hlt hown (by decide +kernel) (by decide +kernel) (hT _ k_202) (hT _ k_9) (by decide +kernel) hC (at_IllegalArgumentException hT hC.2.2.2) (good_IllegalArgumentException) hm (hl.1.trans hml.symm) d_E_breaks_10 d_E_breaks_13 d_E_breaks_14 d_E_breaks_16 d_E_breaks_19 hout (Nat.le_of_ble_eq_true rfl) (Nat.le_of_ble_eq_true rfl) (Nat.le_of_ble_eq_true rfl) (Nat.le_of_ble_eq_true rfl) hlocks (⟨Or.inr (Or.inl ⟨rfl, ⟨i, hi, epi⟩, Int32.not_le.mp c_7⟩), rfl⟩) (Nat.le_of_ble_eq_true rfl) (Nat.le_of_ble_eq_true rfl)

set_option maxHeartbeats 4000000 in
set_option maxRecDepth 100000 in
theorem c_E_power (l : Launch) (hlt : l.stackTraces = false) (D : va_G) (dA : Nat → ClassId) (ad : Nat → Nat) (G : mG) (sz : Nat) (I : Nat → Nat → Int32) (J : Nat → Nat → Int64) (F : Nat → Nat → Nat → Int32) (si : Nat → Nat) (tc oc : Nat) (G0 : mG) (hG : G = gE dA ad I J F si tc oc G0) (ht : tc ≤ 12) (hR : ∃ k, 2 ≤ k ∧ k ≤ 12 ∧ I 0 2 = nI k) (p0 p1 p2 : Int32) : vx_Met l y_E_power (.code y_E_power b_E_power 5 (some .int) :: mBig) ({ frames := 7, cells := 2, slots := 12, locals := 104 }) (mPc [.ref (ad 0), .int p0, .int p1, .int p2] D mCl (mTys dA) mTx ad G sz) (mQi (fun (rv : Int32) (u : mU) => (∃ i k, i < tc ∧ p0 = nI i ∧ ¬ (p2 < 0 ∨ 1000000 < p2 ∨ p1 ≤ I 10 i) ∧ 2 ≤ k ∧ k ≤ 12 ∧ I 0 2 = nI k ∧ eFire rv (I 0 1 < (upd (va_cpy (F 1 i) (F 1 i) 0 1 23) 0 p2) 0) (nI k ≤ (if 24 < I 9 i + 1 then 24 else I 9 i + 1) ∧ ∀ i_1, i_1 + 1 < k → (upd (va_cpy (F 1 i) (F 1 i) 0 1 23) 0 p2) (i_1 + 1) < (upd (va_cpy (F 1 i) (F 1 i) 0 1 23) 0 p2) i_1) (nI k ≤ (if 24 < I 9 i + 1 then 24 else I 9 i + 1) ∧ ∀ i_1, i_1 < k → I 0 3 < (upd (va_cpy (F 1 i) (F 1 i) 0 1 23) 0 p2) i_1) (3 ≤ (if 24 < I 9 i + 1 then 24 else I 9 i + 1) ∧ I 0 4 < (if 0 ≤ (upd (va_cpy (F 1 i) (F 1 i) 0 1 23) 0 p2) 0 - (upd (va_cpy (F 1 i) (F 1 i) 0 1 23) 0 p2) 1 then (upd (va_cpy (F 1 i) (F 1 i) 0 1 23) 0 p2) 0 - (upd (va_cpy (F 1 i) (F 1 i) 0 1 23) 0 p2) 1 else 0 - ((upd (va_cpy (F 1 i) (F 1 i) 0 1 23) 0 p2) 0 - (upd (va_cpy (F 1 i) (F 1 i) 0 1 23) 0 p2) 1)) + (if 0 ≤ (upd (va_cpy (F 1 i) (F 1 i) 0 1 23) 0 p2) 1 - (upd (va_cpy (F 1 i) (F 1 i) 0 1 23) 0 p2) 2 then (upd (va_cpy (F 1 i) (F 1 i) 0 1 23) 0 p2) 1 - (upd (va_cpy (F 1 i) (F 1 i) 0 1 23) 0 p2) 2 else 0 - ((upd (va_cpy (F 1 i) (F 1 i) 0 1 23) 0 p2) 1 - (upd (va_cpy (F 1 i) (F 1 i) 0 1 23) 0 p2) 2))) ∧ u = (ad, gE dA ad (up2 (up2 I 9 i (if 24 < I 9 i + 1 then 24 else I 9 i + 1)) 10 i p1) J (up2 F 1 i (upd (va_cpy (F 1 i) (F 1 i) 0 1 23) 0 p2)) si tc oc G0))) D mCl ad G sz) (mXC (fun (E : String) (u : mU) => ((E = "java/lang/IndexOutOfBoundsException" ∧ ¬ (∃ i, i < tc ∧ p0 = nI i)) ∨ (E = "java/lang/IllegalArgumentException" ∧ ∃ i, i < tc ∧ p0 = nI i ∧ (p2 < 0 ∨ 1000000 < p2 ∨ p1 ≤ I 10 i))) ∧ u = (ad, G)) D mCl ad G sz) 2 12 (mA ad G sz) := by
  refine vx_ofW (cc := b_E_power) (maxL := 5) (ret := (some .int)) (by decide) rfl ?_
  intro p e s m args below meth c s₁ B hml hout hv
  obtain ⟨rfl, hsz, hw0, hC⟩ := hv
  have hx := B.exec
  have hb := B.bytes
  have hr := B.returns
  have hts := atoms_spec (ws := .code y_E_power b_E_power 5 (some .int) :: mBig) B.pre
  have hT : ∀ w ∈ mBig, w.before _ s = true := fun w h => hts w (List.mem_cons_of_mem _ h)
  have hown : s.vm.findClass "EdgeWear" = some m.cls := findClass_of_methodNamed B.named
  have hlocks := B.notSynchronized
  subst hsz
  have hm := mS.start hw0
  have hA : ∀ q : Nat, s.heap.size ≤ q → mA ad G s.heap.size q := fun q h => Or.inr h
  have hl := lv_entry ([.ref (ad 0), .int p0, .int p1, .int p2]) (n := 5) (Nat.le_of_ble_eq_true rfl)
  rw [lg_entry_eq]
  generalize (lg_sl ([.ref (ad 0), .int p0, .int p1, .int p2]) ++ List.replicate (5 - (lg_sl ([.ref (ad 0), .int p0, .int p1, .int p2])).length) Slot.unset).toArray = ls at hl ⊢
  have hl : lv_has ls 5 [(0, .ref (ad 0)), (1, .int p0), (2, .int p1), (3, .int p2)] := hl
  refine lv_aload_n hx hb d_E_power_0 rfl (lv_at hl 0 rfl) ?_
  refine lv_iload_n hx hb d_E_power_1 rfl (lv_at hl 1 rfl) ?_
  refine x_roq (x_runV (As := [.int p0]) (rest := []) ⟨hx, hb, hml, hown, hts⟩ (c_E_toolAt l hlt D dA ad G s.heap.size I J F si tc oc G0 hG ht p0) (cwV 1 hts (gV k_323 k_320 k_322 ks_2 k_1) rfl rfl rfl (by decide +kernel) ⟨Nat.le_of_ble_eq_true rfl, Nat.le_of_ble_eq_true rfl⟩) hm hA hC 0 rfl ((congrFun hG 0).trans gE_c0) rfl rfl rfl hl.1 rfl (Nat.le_of_ble_eq_true rfl) d_E_power_2 ⟨Nat.le_of_ble_eq_true rfl, Nat.le_of_ble_eq_true rfl⟩) hm hA (fun E ce q9 H locs w_2 hm h7 h8 h9 => ?_) (fun r_1 H locs w_2 hm => ?_)
  · exact m_out hout hlocks hm h7 h8 h9 (by
      obtain ⟨rfl, hq⟩ := w_2
      exact ⟨Or.inl ⟨rfl, hq⟩, rfl⟩) (by decide) (by decide)
  · obtain ⟨i, hi, epi, er⟩ := w_2
    subst er
    rw [show va_rf (some (ad (100 + i))) = .ref (ad (100 + i)) from rfl]
    obtain ⟨k, hk2, hk12, ek⟩ := hR
    refine m_get (v := .ref (ad (200 + i))) (C := R_To) (T := T_To) (N := 9) hx hb hT in_To hown hC.1 hm (100 + i) rfl ((congrFun hG (100 + i)).trans (gE_to hi ht)) rfl 2 (by decide) (hT _ k_260) (fun _ h9 => h9) rfl d_E_power_5 ?_
    refine lv_astore (lv' := [(4, .ref (ad (200 + i))), (0, .ref (ad 0)), (1, .int p0), (2, .int p1), (3, .int p2)]) hx hb d_E_power_8 hl (by decide) rfl (fun ls hl => ?_)
    refine lv_iload_n hx hb d_E_power_10 rfl (lv_at hl 4 rfl) ?_
    refine lv_if_lt (tgt := 20) hx hb d_E_power_11 (by decide) (fun c_11 => ?_) (fun c_11 => ?_)
    · exact m_throwS (cls := "java/lang/IllegalArgumentException") (text := "reading is not 0 .. 1000000") (names := ["java/lang/RuntimeException", "java/lang/Exception"]) (tx := mTx) hx hb hlt hown (by decide +kernel) (by decide +kernel) (hT _ k_202) (hT _ k_9) (by decide +kernel) hC (at_IllegalArgumentException hT hC.2.2.2) (good_IllegalArgumentException) hm (hl.1.trans hml.symm) d_E_power_20 d_E_power_23 d_E_power_24 d_E_power_26 d_E_power_29 hout (Nat.le_of_ble_eq_true rfl) (Nat.le_of_ble_eq_true rfl) (Nat.le_of_ble_eq_true rfl) (Nat.le_of_ble_eq_true rfl) hlocks (⟨Or.inr ⟨rfl, i, hi, epi, Or.inl c_11⟩, rfl⟩) (Nat.le_of_ble_eq_true rfl) (Nat.le_of_ble_eq_true rfl)
    · refine lv_iload_n hx hb d_E_power_14 rfl (lv_at hl 4 rfl) ?_
      refine lv_ldc (v := 1000000) hx hb hown (hT _ k_201) d_E_power_15 ?_
      refine lv_icmp_le (tgt := 30) hx hb d_E_power_17 (by decide) (fun c_17 => ?_) (fun c_17 => ?_)
      · refine lv_iload_n hx hb d_E_power_30 rfl (lv_at hl 3 rfl) ?_
        refine lv_aload hx hb d_E_power_31 (lv_at hl 0 rfl) ?_
        refine m_get (v := .int (I 10 i)) (C := R_Rd) (T := T_Rd) (N := 3) hx hb hT in_Rd hown hC.1 hm (200 + i) rfl ((congrFun hG (200 + i)).trans (gE_rd hi ht)) rfl 2 (by decide) (hT _ k_248) (fun _ h9 => h9) rfl d_E_power_33 ?_
        refine lv_icmp_gt (tgt := 49) hx hb d_E_power_36 (by decide) (fun c_36 => ?_) (fun c_36 => ?_)
        · refine lv_aload hx hb d_E_power_49 (lv_at hl 0 rfl) ?_
          refine lv_iload_n hx hb d_E_power_51 rfl (lv_at hl 3 rfl) ?_
          refine lv_iload_n hx hb d_E_power_52 rfl (lv_at hl 4 rfl) ?_
          refine m_callv (m_runV (As := [.int p1, .int p2]) (rest := []) ⟨hx, hb, hml, hown, hts⟩ (c_Rd_add l D dA ad G H.size (200 + i) (300 + i) (I 9 i) (I 10 i) (F 1 i) p1 p2 (by omega) ((congrFun hG (200 + i)).trans (gE_rd hi ht)) ((congrFun hG (300 + i)).trans (gE_la hi ht))) (cwV 2 hts (gV k_494 k_491 k_492 k_493 k_12) rfl rfl rfl (by decide +kernel) ⟨Nat.le_of_ble_eq_true rfl, Nat.le_of_ble_eq_true rfl⟩) hm hA hC (200 + i) rfl ((congrFun hG (200 + i)).trans (gE_rd hi ht)) rfl rfl rfl hl.1 rfl (Nat.le_of_ble_eq_true rfl) d_E_power_53 ⟨Nat.le_of_ble_eq_true rfl, Nat.le_of_ble_eq_true rfl⟩) hm hA (fun ad_6 G_5 H locs w_4 hm => ?_)
          obtain ⟨ea9, eG_5⟩ := Prod.mk.inj w_4
          rw [ea9] at hm
          have g_7 := (congrFun eG_5 0).trans ((va_up_ne _ _ (by omega)).trans ((va_up_ne _ _ (by omega)).trans ((congrFun hG 0).trans gE_c0)))
          have g_8 := (congrFun eG_5 1).trans ((va_up_ne _ _ (by omega)).trans ((va_up_ne _ _ (by omega)).trans ((congrFun hG 1).trans gE_c1)))
          have g_9 := (congrFun eG_5 2).trans ((va_up_ne _ _ (by omega)).trans ((va_up_ne _ _ (by omega)).trans ((congrFun hG 2).trans gE_c2)))
          have g_10 := (congrFun eG_5 3).trans ((va_up_ne _ _ (by omega)).trans ((va_up_ne _ _ (by omega)).trans ((congrFun hG 3).trans gE_c3)))
          have g_11 := (congrFun eG_5 4).trans ((va_up_ne _ _ (by omega)).trans ((va_up_ne _ _ (by omega)).trans ((congrFun hG 4).trans gE_c4)))
          have g_12 := (congrFun eG_5 5).trans ((va_up_ne _ _ (by omega)).trans ((va_up_ne _ _ (by omega)).trans ((congrFun hG 5).trans gE_c5)))
          have g_13 := (congrFun eG_5 (100 + i)).trans ((va_up_ne _ _ (by omega)).trans ((va_up_ne _ _ (by omega)).trans ((congrFun hG (100 + i)).trans (gE_to hi ht))))
          have g_14 : G_5 (200 + i) = some (.inr (1, [.ref (ad (300 + i)), .int (if 24 < I 9 i + 1 then 24 else I 9 i + 1), .int p1])) := by rw [eG_5, va_up_self]
          have g_15 : G_5 (300 + i) = some (.inl (dA 0, 24, .inl (upd (va_cpy (F 1 i) (F 1 i) 0 1 23) 0 p2))) := by rw [eG_5, va_up_ne _ _ (by omega), va_up_self]
          refine lv_aload_n hx hb d_E_power_56 rfl (lv_at hl 1 rfl) ?_
          refine m_get (v := .ref (ad 5)) (C := R_E) (T := T_E) (N := 8) hx hb hT in_E hown hC.1 hm 0 rfl g_7 rfl 5 (by decide) (hT _ k_92) (fun _ h9 => h9) rfl d_E_power_57 ?_
          refine lv_aload hx hb d_E_power_60 (lv_at hl 0 rfl) ?_
          refine m_roi (m_runV (As := [.ref (ad (200 + i))]) (rest := []) ⟨hx, hb, hml, hown, hts⟩ (c_Ru_firstThatTells l D dA ad G_5 H.size 5 (I 0 1) (I 0 2) (I 0 3) (I 0 4) (200 + i) (300 + i) (if 24 < I 9 i + 1 then 24 else I 9 i + 1) p1 (upd (va_cpy (F 1 i) (F 1 i) 0 1 23) 0 p2) k ek (by omega) (by omega) (g_12) (g_14) (g_15)) (cwV 1 hts (gV k_502 k_499 k_500 k_501 k_3) rfl rfl rfl (by decide +kernel) ⟨Nat.le_of_ble_eq_true rfl, Nat.le_of_ble_eq_true rfl⟩) hm hA hC 5 rfl g_12 rfl rfl rfl hl.1 rfl (Nat.le_of_ble_eq_true rfl) d_E_power_62 ⟨Nat.le_of_ble_eq_true rfl, Nat.le_of_ble_eq_true rfl⟩) hm hA (fun r_16 H locs w_17 hm => ?_)
          refine W.widen (k := 2) (n := 12) (by omega) (by omega) ?_
          refine vx_ret ?_
          exact m_iret (v := r_16) hx hb hr hm (⟨i, k, hi, epi, fun h => h.elim c_11 (fun h => h.elim (fun h => Int32.not_lt.mpr c_17 h) (fun h => Int32.not_lt.mpr h c_36)), hk2, hk12, ek, w_17, by rw [eG_5, hG, gE_ulate hi ht, gE_uread hi ht]⟩) d_E_power_65 hlocks
        · exact m_throwS (cls := "java/lang/IllegalArgumentException") (text := "minute is not above the one before") (names := ["java/lang/RuntimeException", "java/lang/Exception"]) (tx := mTx) hx hb hlt hown (by decide +kernel) (by decide +kernel) (hT _ k_202) (hT _ k_9) (by decide +kernel) hC (at_IllegalArgumentException hT hC.2.2.2) (good_IllegalArgumentException) hm (hl.1.trans hml.symm) d_E_power_39 d_E_power_42 d_E_power_43 d_E_power_45 d_E_power_48 hout (Nat.le_of_ble_eq_true rfl) (Nat.le_of_ble_eq_true rfl) (Nat.le_of_ble_eq_true rfl) (Nat.le_of_ble_eq_true rfl) hlocks (⟨Or.inr ⟨rfl, i, hi, epi, Or.inr (Or.inr (Int32.not_lt.mp c_36))⟩, rfl⟩) (Nat.le_of_ble_eq_true rfl) (Nat.le_of_ble_eq_true rfl)
      · exact m_throwS (cls := "java/lang/IllegalArgumentException") (text := "reading is not 0 .. 1000000") (names := ["java/lang/RuntimeException", "java/lang/Exception"]) (tx := mTx) hx hb hlt hown (by decide +kernel) (by decide +kernel) (hT _ k_202) (hT _ k_9) (by decide +kernel) hC (at_IllegalArgumentException hT hC.2.2.2) (good_IllegalArgumentException) hm (hl.1.trans hml.symm) d_E_power_20 d_E_power_23 d_E_power_24 d_E_power_26 d_E_power_29 hout (Nat.le_of_ble_eq_true rfl) (Nat.le_of_ble_eq_true rfl) (Nat.le_of_ble_eq_true rfl) (Nat.le_of_ble_eq_true rfl) hlocks (⟨Or.inr ⟨rfl, i, hi, epi, Or.inr (Or.inl (Int32.not_le.mp c_17))⟩, rfl⟩) (Nat.le_of_ble_eq_true rfl) (Nat.le_of_ble_eq_true rfl)

set_option maxHeartbeats 4000000 in
set_option maxRecDepth 100000 in
theorem c_E_wholeThickness (l : Launch) (D : va_G) (dA : Nat → ClassId) (ad : Nat → Nat) (G : mG) (sz : Nat) (I : Nat → Nat → Int32) (J : Nat → Nat → Int64) (F : Nat → Nat → Nat → Int32) (si : Nat → Nat) (tc oc : Nat) (G0 : mG) (hG : G = gE dA ad I J F si tc oc G0) (ht : tc ≤ 12) (p0 : Int64) (p1 : Int32) : Met l y_E_wholeThickness (.code y_E_wholeThickness b_E_wholeThickness 7 (some .int) :: mBig) ({ frames := 0, cells := 0, slots := 0, locals := 0 }) (mPc [.long p0, .int p1] D mCl (mTys dA) mTx ad G sz) (mQi (fun (rv : Int32) (u : mU) => (rv = eTh p0 p1 20 0) ∧ u = (ad, G)) D mCl ad G sz) 0 0 (mA ad G sz) := by
  refine Met.ofW (cc := b_E_wholeThickness) (maxL := 7) (ret := (some .int)) (by decide) rfl ?_
  intro p e s m args below meth c s₁ B hml hv
  obtain ⟨rfl, hsz, hw0, hC⟩ := hv
  have hx := B.exec
  have hb := B.bytes
  have hr := B.returns
  have hts := atoms_spec (ws := .code y_E_wholeThickness b_E_wholeThickness 7 (some .int) :: mBig) B.pre
  have hT : ∀ w ∈ mBig, w.before _ s = true := fun w h => hts w (List.mem_cons_of_mem _ h)
  have hown : s.vm.findClass "EdgeWear" = some m.cls := findClass_of_methodNamed B.named
  have hlocks := B.notSynchronized
  subst hsz
  have hm := mS.start hw0
  have hA : ∀ q : Nat, s.heap.size ≤ q → mA ad G s.heap.size q := fun q h => Or.inr h
  have hl := lv_entry ([.long p0, .int p1]) (n := 7) (Nat.le_of_ble_eq_true rfl)
  rw [lg_entry_eq]
  generalize (lg_sl ([.long p0, .int p1]) ++ List.replicate (7 - (lg_sl ([.long p0, .int p1])).length) Slot.unset).toArray = ls at hl ⊢
  have hl : lv_has ls 7 [(0, .long p0), (2, .int p1)] := hl
  refine lv_iconst (v := 0) hx hb d_E_wholeThickness_0 (by decide) ?_
  refine lv_istore_n (lv' := [(3, .int 0), (0, .long p0), (2, .int p1)]) hx hb d_E_wholeThickness_1 rfl hl (by decide) rfl (fun ls hl => ?_)
  refine lv_ldcw (v := 524288) hx hb hown (hT _ k_582) d_E_wholeThickness_2 ?_
  refine lv_istore (lv' := [(4, .int 524288), (3, .int 0), (0, .long p0), (2, .int p1)]) hx hb d_E_wholeThickness_5 hl (by decide) rfl (fun ls hl => ?_)
  refine m_loopH (nL := 7) (head := 7) (fun (q9 : Nat) => fun (x : Nat × Int32) => match x with | (n, x) => q9 = n + 1 ∧ n ≤ 20 ∧ eTh p0 p1 n x = eTh p0 p1 20 0) (fun (x : Nat × Int32) => match x with | (n, x) => [(0, .long p0), (2, .int p1), (3, .int x), (4, .int (nI (2 ^ n / 2)))]) (fun _ => G) (fun ⟨n, x⟩ h => by have h1 := h.1; have h2 := h.2.1; omega) (fun q9 x ls H locs hI hl hm ih7 => ?_) (20) (20, 0) (⟨rfl, by decide, rfl⟩) (lv_sub hl [2, 3, 1, 0] rfl) hm
  obtain ⟨n, x⟩ := x
  replace hI : (fun (q9 : Nat) => q9 = n + 1 ∧ n ≤ 20 ∧ eTh p0 p1 n x = eTh p0 p1 20 0) (q9 + 1) := hI
  have hl : lv_has ls 7 [(0, .long p0), (2, .int p1), (3, .int x), (4, .int (nI (2 ^ n / 2)))] := hl
  refine lv_iload hx hb d_E_wholeThickness_7 (lv_at hl 3 rfl) ?_
  refine lv_if_le (tgt := 46) hx hb d_E_wholeThickness_9 (by decide) (fun c_9 => ?_) (fun c_9 => ?_)
  · have hn0 : n = 0 := by
      cases n with
      | zero => rfl
      | succ k =>
        have hkp : 2 ^ k < 2 ^ 20 := Nat.pow_lt_pow_right (by decide) (by omega)
        have hk0 : 0 < 2 ^ k := Nat.pow_pos (by decide)
        have e2 : 2 ^ (k + 1) / 2 = 2 ^ k := by rw [Nat.pow_succ]; omega
        rw [e2] at c_9
        exact absurd c_9 (nI_nle hk0 (by omega))
    refine lv_iload_n hx hb d_E_wholeThickness_46 rfl (lv_at hl 2 rfl) ?_
    exact m_iret (v := x) hx hb hr hm (⟨by
      rw [← hI.2.2, hn0]
      rfl, rfl⟩) d_E_wholeThickness_47 hlocks
  · obtain ⟨k, rfl⟩ : ∃ k, n = k + 1 := by
      cases n with
      | zero => exact absurd (show nI (2 ^ 0 / 2) ≤ 0 from Int32.le_refl _) c_9
      | succ k => exact ⟨k, rfl⟩
    have e2 : 2 ^ (k + 1) / 2 = 2 ^ k := by rw [Nat.pow_succ]; omega
    have hkp : 2 ^ k < 2 ^ 20 := Nat.pow_lt_pow_right (by decide) (by omega)
    refine lv_iload_n hx hb d_E_wholeThickness_12 rfl (lv_at hl 2 rfl) ?_
    refine lv_iload hx hb d_E_wholeThickness_13 (lv_at hl 3 rfl) ?_
    refine lv_iadd hx hb d_E_wholeThickness_15 ?_
    refine lv_topi (fun x_1 ex_1 => ?_)
    refine lv_i2l hx hb d_E_wholeThickness_16 rfl ?_
    refine lv_topl (fun x_2 ex_2 => ?_)
    refine lv_iload_n hx hb d_E_wholeThickness_17 rfl (lv_at hl 1 rfl) ?_
    refine lv_i2l hx hb d_E_wholeThickness_18 rfl ?_
    refine lv_topl (fun x_3 ex_3 => ?_)
    refine lv_lmul hx hb d_E_wholeThickness_19 ?_
    refine lv_topl (fun x_4 ex_4 => ?_)
    refine lv_lstore (lv' := [(5, .long x_4), (0, .long p0), (2, .int p1), (3, .int x), (4, .int (nI (2 ^ (k + 1) / 2)))]) hx hb d_E_wholeThickness_20 hl (by decide) rfl (fun ls hl => ?_)
    refine lv_lload hx hb d_E_wholeThickness_22 (lv_at hl 0 rfl) ?_
    refine lv_lload hx hb d_E_wholeThickness_24 (lv_at hl 0 rfl) ?_
    refine lv_lmul hx hb d_E_wholeThickness_26 ?_
    refine lv_topl (fun x_5 ex_5 => ?_)
    refine lv_lload_n hx hb d_E_wholeThickness_27 rfl (lv_at hl 1 rfl) ?_
    refine W.lcmp hx hb d_E_wholeThickness_28 ?_
    refine lv_if_gt (tgt := 37) hx hb d_E_wholeThickness_29 (by decide) (fun c_29 => ?_) (fun c_29 => ?_)
    · refine lv_iload hx hb d_E_wholeThickness_37 (lv_at hl 4 rfl) ?_
      refine lv_iconst (v := 2) hx hb d_E_wholeThickness_39 (by decide) ?_
      refine lv_idiv hx hb d_E_wholeThickness_40 (by decide) ?_
      refine lv_topi (fun x_6 ex_6 => ?_)
      have hq : x_6 = nI (2 ^ k / 2) := by
        rw [ex_6, e2, show (2 : Int32) = nI 2 from rfl, pk_div (by omega) (by decide) (by decide)]
      rw [hq]
      refine lv_istore (lv' := [(4, .int (nI (2 ^ k / 2))), (5, .long x_4), (0, .long p0), (2, .int p1), (3, .int x)]) hx hb d_E_wholeThickness_41 hl (by decide) rfl (fun ls hl => ?_)
      refine lv_goto (tgt := 7) hx hb d_E_wholeThickness_43 (by decide) ?_
      exact ih7 (k, x) ls H locs (⟨by omega, by omega, by
        have h9 := (lg_gt _ _).mp c_29
        rw [ex_5, ex_4, ex_3, ex_2, ex_1, e2] at h9
        rw [← hI.2.2, eTh_s, if_pos h9]⟩) (lv_sub hl [2, 3, 4, 0] rfl) hm
    · refine lv_iload_n hx hb d_E_wholeThickness_32 rfl (lv_at hl 3 rfl) ?_
      refine lv_iload hx hb d_E_wholeThickness_33 (lv_at hl 4 rfl) ?_
      refine lv_iadd hx hb d_E_wholeThickness_35 ?_
      refine lv_topi (fun x_7 ex_7 => ?_)
      refine lv_istore_n (lv' := [(3, .int x_7), (5, .long x_4), (0, .long p0), (2, .int p1), (4, .int (nI (2 ^ (k + 1) / 2)))]) hx hb d_E_wholeThickness_36 rfl hl (by decide) rfl (fun ls hl => ?_)
      refine lv_iload hx hb d_E_wholeThickness_37 (lv_at hl 4 rfl) ?_
      refine lv_iconst (v := 2) hx hb d_E_wholeThickness_39 (by decide) ?_
      refine lv_idiv hx hb d_E_wholeThickness_40 (by decide) ?_
      refine lv_topi (fun x_8 ex_8 => ?_)
      have hq : x_8 = nI (2 ^ k / 2) := by
        rw [ex_8, e2, show (2 : Int32) = nI 2 from rfl, pk_div (by omega) (by decide) (by decide)]
      rw [hq]
      refine lv_istore (lv' := [(4, .int (nI (2 ^ k / 2))), (3, .int x_7), (5, .long x_4), (0, .long p0), (2, .int p1)]) hx hb d_E_wholeThickness_41 hl (by decide) rfl (fun ls hl => ?_)
      refine lv_goto (tgt := 7) hx hb d_E_wholeThickness_43 (by decide) ?_
      exact ih7 (k, x_7) ls H locs (⟨by omega, by omega, by
        have h9 := fun q => c_29 ((lg_gt _ _).mpr q)
        rw [ex_5, ex_4, ex_3, ex_2, ex_1, e2] at h9
        rw [← hI.2.2, eTh_s, if_neg h9, ex_7, e2]⟩) (lv_sub hl [3, 4, 1, 0] rfl) hm

set_option maxHeartbeats 4000000 in
set_option maxRecDepth 100000 in
theorem c_E_chip (l : Launch) (hlt : l.stackTraces = false) (D : va_G) (dA : Nat → ClassId) (ad : Nat → Nat) (G : mG) (sz : Nat) (I : Nat → Nat → Int32) (J : Nat → Nat → Int64) (F : Nat → Nat → Nat → Int32) (si : Nat → Nat) (tc oc : Nat) (G0 : mG) (hG : G = gE dA ad I J F si tc oc G0) (ht : tc ≤ 12) (p0 p1 p2 p3 : Int32) : vx_Met l y_E_chip (.code y_E_chip b_E_chip 10 (some .int) :: mBig) ({ frames := 6, cells := 1, slots := 6, locals := 82 }) (mPc [.ref (ad 0), .int p0, .int p1, .int p2, .int p3] D mCl (mTys dA) mTx ad G sz) (mQi (fun (rv : Int32) (u : mU) => ((p3 = 0 ∨ p3 = 1) ∧ ¬ (p0 < 0 ∨ 1000000 < p0 ∨ p2 < 1 ∨ 1000 < p2 ∨ p1 < 0 ∨ p2 < p1) ∧ rv = eChip p0 p1 p2 p3) ∧ u = (ad, G)) D mCl ad G sz) (mXC (fun (E : String) (u : mU) => ((E = "java/lang/IndexOutOfBoundsException" ∧ ¬ (p3 = 0 ∨ p3 = 1)) ∨ (E = "java/lang/IllegalArgumentException" ∧ (p3 = 0 ∨ p3 = 1) ∧ (p0 < 0 ∨ 1000000 < p0 ∨ p2 < 1 ∨ 1000 < p2 ∨ p1 < 0 ∨ p2 < p1))) ∧ u = (ad, G)) D mCl ad G sz) 1 6 (mA ad G sz) := by
  refine vx_ofW (cc := b_E_chip) (maxL := 10) (ret := (some .int)) (by decide) rfl ?_
  intro p e s m args below meth c s₁ B hml hout hv
  obtain ⟨rfl, hsz, hw0, hC⟩ := hv
  have hx := B.exec
  have hb := B.bytes
  have hr := B.returns
  have hts := atoms_spec (ws := .code y_E_chip b_E_chip 10 (some .int) :: mBig) B.pre
  have hT : ∀ w ∈ mBig, w.before _ s = true := fun w h => hts w (List.mem_cons_of_mem _ h)
  have hown : s.vm.findClass "EdgeWear" = some m.cls := findClass_of_methodNamed B.named
  have hlocks := B.notSynchronized
  subst hsz
  have hm := mS.start hw0
  have hA : ∀ q : Nat, s.heap.size ≤ q → mA ad G s.heap.size q := fun q h => Or.inr h
  have hl := lv_entry ([.ref (ad 0), .int p0, .int p1, .int p2, .int p3]) (n := 10) (Nat.le_of_ble_eq_true rfl)
  rw [lg_entry_eq]
  generalize (lg_sl ([.ref (ad 0), .int p0, .int p1, .int p2, .int p3]) ++ List.replicate (10 - (lg_sl ([.ref (ad 0), .int p0, .int p1, .int p2, .int p3])).length) Slot.unset).toArray = ls at hl ⊢
  have hl : lv_has ls 10 [(0, .ref (ad 0)), (1, .int p0), (2, .int p1), (3, .int p2), (4, .int p3)] := hl
  refine lv_iload hx hb d_E_chip_0 (lv_at hl 4 rfl) ?_
  refine lv_if_eq (tgt := 21) hx hb d_E_chip_2 (by decide) (fun c_2 => ?_) (fun c_2 => ?_)
  · refine lv_iload_n hx hb d_E_chip_21 rfl (lv_at hl 1 rfl) ?_
    refine lv_if_lt (tgt := 31) hx hb d_E_chip_22 (by decide) (fun c_22 => ?_) (fun c_22 => ?_)
    · exact m_throwS (cls := "java/lang/IllegalArgumentException") (text := "feed is not 0 .. 1000000") (names := ["java/lang/RuntimeException", "java/lang/Exception"]) (tx := mTx) hx hb hlt hown (by decide +kernel) (by decide +kernel) (hT _ k_202) (hT _ k_9) (by decide +kernel) hC (at_IllegalArgumentException hT hC.2.2.2) (good_IllegalArgumentException) hm (hl.1.trans hml.symm) d_E_chip_31 d_E_chip_34 d_E_chip_35 d_E_chip_37 d_E_chip_40 hout (Nat.le_of_ble_eq_true rfl) (Nat.le_of_ble_eq_true rfl) (Nat.le_of_ble_eq_true rfl) (Nat.le_of_ble_eq_true rfl) hlocks (⟨Or.inr ⟨rfl, Or.inl c_2, Or.inl (c_22)⟩, rfl⟩) (Nat.le_of_ble_eq_true rfl) (Nat.le_of_ble_eq_true rfl)
    · refine lv_iload_n hx hb d_E_chip_25 rfl (lv_at hl 1 rfl) ?_
      refine lv_ldc (v := 1000000) hx hb hown (hT _ k_201) d_E_chip_26 ?_
      refine lv_icmp_le (tgt := 41) hx hb d_E_chip_28 (by decide) (fun c_28 => ?_) (fun c_28 => ?_)
      · refine lv_iload_n hx hb d_E_chip_41 rfl (lv_at hl 3 rfl) ?_
        refine lv_iconst (v := 1) hx hb d_E_chip_42 (by decide) ?_
        refine lv_icmp_lt (tgt := 62) hx hb d_E_chip_43 (by decide) (fun c_43 => ?_) (fun c_43 => ?_)
        · exact m_throwS (cls := "java/lang/IllegalArgumentException") (text := "wide is not 1 .. 1000, or depth is not 0 .. wide") (names := ["java/lang/RuntimeException", "java/lang/Exception"]) (tx := mTx) hx hb hlt hown (by decide +kernel) (by decide +kernel) (hT _ k_202) (hT _ k_9) (by decide +kernel) hC (at_IllegalArgumentException hT hC.2.2.2) (good_IllegalArgumentException) hm (hl.1.trans hml.symm) d_E_chip_62 d_E_chip_65 d_E_chip_66 d_E_chip_68 d_E_chip_71 hout (Nat.le_of_ble_eq_true rfl) (Nat.le_of_ble_eq_true rfl) (Nat.le_of_ble_eq_true rfl) (Nat.le_of_ble_eq_true rfl) hlocks (⟨Or.inr ⟨rfl, Or.inl c_2, Or.inr (Or.inr (Or.inl (c_43)))⟩, rfl⟩) (Nat.le_of_ble_eq_true rfl) (Nat.le_of_ble_eq_true rfl)
        · refine lv_iload_n hx hb d_E_chip_46 rfl (lv_at hl 3 rfl) ?_
          refine lv_sipush (v := 1000) hx hb d_E_chip_47 (by decide) ?_
          refine lv_icmp_gt (tgt := 62) hx hb d_E_chip_50 (by decide) (fun c_50 => ?_) (fun c_50 => ?_)
          · exact m_throwS (cls := "java/lang/IllegalArgumentException") (text := "wide is not 1 .. 1000, or depth is not 0 .. wide") (names := ["java/lang/RuntimeException", "java/lang/Exception"]) (tx := mTx) hx hb hlt hown (by decide +kernel) (by decide +kernel) (hT _ k_202) (hT _ k_9) (by decide +kernel) hC (at_IllegalArgumentException hT hC.2.2.2) (good_IllegalArgumentException) hm (hl.1.trans hml.symm) d_E_chip_62 d_E_chip_65 d_E_chip_66 d_E_chip_68 d_E_chip_71 hout (Nat.le_of_ble_eq_true rfl) (Nat.le_of_ble_eq_true rfl) (Nat.le_of_ble_eq_true rfl) (Nat.le_of_ble_eq_true rfl) hlocks (⟨Or.inr ⟨rfl, Or.inl c_2, Or.inr (Or.inr (Or.inr (Or.inl (c_50))))⟩, rfl⟩) (Nat.le_of_ble_eq_true rfl) (Nat.le_of_ble_eq_true rfl)
          · refine lv_iload_n hx hb d_E_chip_53 rfl (lv_at hl 2 rfl) ?_
            refine lv_if_lt (tgt := 62) hx hb d_E_chip_54 (by decide) (fun c_54 => ?_) (fun c_54 => ?_)
            · exact m_throwS (cls := "java/lang/IllegalArgumentException") (text := "wide is not 1 .. 1000, or depth is not 0 .. wide") (names := ["java/lang/RuntimeException", "java/lang/Exception"]) (tx := mTx) hx hb hlt hown (by decide +kernel) (by decide +kernel) (hT _ k_202) (hT _ k_9) (by decide +kernel) hC (at_IllegalArgumentException hT hC.2.2.2) (good_IllegalArgumentException) hm (hl.1.trans hml.symm) d_E_chip_62 d_E_chip_65 d_E_chip_66 d_E_chip_68 d_E_chip_71 hout (Nat.le_of_ble_eq_true rfl) (Nat.le_of_ble_eq_true rfl) (Nat.le_of_ble_eq_true rfl) (Nat.le_of_ble_eq_true rfl) hlocks (⟨Or.inr ⟨rfl, Or.inl c_2, Or.inr (Or.inr (Or.inr (Or.inr (Or.inl (c_54)))))⟩, rfl⟩) (Nat.le_of_ble_eq_true rfl) (Nat.le_of_ble_eq_true rfl)
            · refine lv_iload_n hx hb d_E_chip_57 rfl (lv_at hl 2 rfl) ?_
              refine lv_iload_n hx hb d_E_chip_58 rfl (lv_at hl 3 rfl) ?_
              refine lv_icmp_le (tgt := 72) hx hb d_E_chip_59 (by decide) (fun c_59 => ?_) (fun c_59 => ?_)
              · refine lv_ldc2 (v := 4) hx hb hown (hT _ k_469) d_E_chip_72 ?_
                refine lv_iload_n hx hb d_E_chip_75 rfl (lv_at hl 1 rfl) ?_
                refine lv_i2l hx hb d_E_chip_76 rfl ?_
                refine lv_topl (fun x_1 ex_1 => ?_)
                refine lv_lmul hx hb d_E_chip_77 ?_
                refine lv_topl (fun x_2 ex_2 => ?_)
                refine lv_iload_n hx hb d_E_chip_78 rfl (lv_at hl 1 rfl) ?_
                refine lv_i2l hx hb d_E_chip_79 rfl ?_
                refine lv_topl (fun x_3 ex_3 => ?_)
                refine lv_lmul hx hb d_E_chip_80 ?_
                refine lv_topl (fun x_4 ex_4 => ?_)
                refine lv_iload_n hx hb d_E_chip_81 rfl (lv_at hl 2 rfl) ?_
                refine lv_i2l hx hb d_E_chip_82 rfl ?_
                refine lv_topl (fun x_5 ex_5 => ?_)
                refine lv_lmul hx hb d_E_chip_83 ?_
                refine lv_topl (fun x_6 ex_6 => ?_)
                refine lv_iload_n hx hb d_E_chip_84 rfl (lv_at hl 3 rfl) ?_
                refine lv_iload_n hx hb d_E_chip_85 rfl (lv_at hl 2 rfl) ?_
                refine lv_isub hx hb d_E_chip_86 ?_
                refine lv_topi (fun x_7 ex_7 => ?_)
                refine lv_i2l hx hb d_E_chip_87 rfl ?_
                refine lv_topl (fun x_8 ex_8 => ?_)
                refine lv_lmul hx hb d_E_chip_88 ?_
                refine lv_topl (fun x_9 ex_9 => ?_)
                refine lv_lstore (lv' := [(5, .long x_9), (0, .ref (ad 0)), (1, .int p0), (2, .int p1), (3, .int p2), (4, .int p3)]) hx hb d_E_chip_89 hl (by decide) rfl (fun ls hl => ?_)
                refine lv_lload hx hb d_E_chip_91 (lv_at hl 0 rfl) ?_
                refine lv_iload_n hx hb d_E_chip_93 rfl (lv_at hl 4 rfl) ?_
                refine m_roi (m_runS (As := [.long x_9, .int p2]) (rest := []) ⟨hx, hb, hml, hown, hts⟩ (c_E_wholeThickness l D dA ad G s.heap.size I J F si tc oc G0 hG ht x_9 p2) (va_cwS 2 hts (gS k_581 k_579 k_580 k_1) rfl rfl rfl (by decide +kernel) ⟨Nat.le_of_ble_eq_true rfl, Nat.le_of_ble_eq_true rfl⟩) hm hA hC rfl hl.1 rfl (Nat.le_of_ble_eq_true rfl) d_E_chip_94 ⟨Nat.le_of_ble_eq_true rfl, Nat.le_of_ble_eq_true rfl⟩) hm hA (fun r_10 H locs w_11 hm => ?_)
                refine lv_istore (lv' := [(7, .int r_10), (5, .long x_9), (0, .ref (ad 0)), (1, .int p0), (2, .int p1), (3, .int p2), (4, .int p3)]) hx hb d_E_chip_97 hl (by decide) rfl (fun ls hl => ?_)
                refine lv_iload hx hb d_E_chip_99 (lv_at hl 0 rfl) ?_
                refine lv_i2l hx hb d_E_chip_101 rfl ?_
                refine lv_topl (fun x_12 ex_12 => ?_)
                refine lv_iload_n hx hb d_E_chip_102 rfl (lv_at hl 5 rfl) ?_
                refine lv_i2l hx hb d_E_chip_103 rfl ?_
                refine lv_topl (fun x_13 ex_13 => ?_)
                refine lv_lmul hx hb d_E_chip_104 ?_
                refine lv_topl (fun x_14 ex_14 => ?_)
                refine lv_lstore (lv' := [(8, .long x_14), (7, .int r_10), (5, .long x_9), (0, .ref (ad 0)), (1, .int p0), (2, .int p1), (3, .int p2), (4, .int p3)]) hx hb d_E_chip_105 hl (by decide) rfl (fun ls hl => ?_)
                refine lv_iload hx hb d_E_chip_107 (lv_at hl 7 rfl) ?_
                refine lv_iconst (v := 1) hx hb d_E_chip_109 (by decide) ?_
                refine lv_icmp_ne (tgt := 131) hx hb d_E_chip_110 (by decide) (fun c_110 => ?_) (fun c_110 => ?_)
                · refine lv_iload hx hb d_E_chip_131 (lv_at hl 1 rfl) ?_
                  refine W.widen (k := 1) (n := 6) (by omega) (by omega) ?_
                  refine vx_ret ?_
                  exact m_iret (v := r_10) hx hb hr hm (⟨⟨Or.inl c_2, fun h => h.elim c_22 (fun h => h.elim (fun h => Int32.not_lt.mpr c_28 h) (fun h => h.elim c_43 (fun h => h.elim c_50 (fun h => h.elim c_54 (fun h => Int32.not_lt.mpr c_59 h))))), by
                    have hsq : x_9 = eSq p0 p1 p2 := by
                      rw [ex_9, ex_8, ex_7, ex_6, ex_5, ex_4, ex_3, ex_2, ex_1]
                      rfl
                    have hwh : r_10 = eTh (eSq p0 p1 p2) p2 20 0 := by rw [← hsq]; exact w_11
                    unfold eChip
                    rw [if_neg (fun h => c_110 h.1), hwh]⟩, rfl⟩) d_E_chip_133 hlocks
                · refine lv_lload hx hb d_E_chip_113 (lv_at hl 0 rfl) ?_
                  refine lv_lload hx hb d_E_chip_115 (lv_at hl 0 rfl) ?_
                  refine lv_lmul hx hb d_E_chip_117 ?_
                  refine lv_topl (fun x_15 ex_15 => ?_)
                  refine lv_lload hx hb d_E_chip_118 (lv_at hl 2 rfl) ?_
                  refine W.lcmp hx hb d_E_chip_120 ?_
                  refine lv_if_ge (tgt := 131) hx hb d_E_chip_121 (by decide) (fun c_121 => ?_) (fun c_121 => ?_)
                  · refine lv_iload hx hb d_E_chip_131 (lv_at hl 1 rfl) ?_
                    refine W.widen (k := 1) (n := 6) (by omega) (by omega) ?_
                    refine vx_ret ?_
                    exact m_iret (v := r_10) hx hb hr hm (⟨⟨Or.inl c_2, fun h => h.elim c_22 (fun h => h.elim (fun h => Int32.not_lt.mpr c_28 h) (fun h => h.elim c_43 (fun h => h.elim c_50 (fun h => h.elim c_54 (fun h => Int32.not_lt.mpr c_59 h))))), by
                      have hsq : x_9 = eSq p0 p1 p2 := by
                        rw [ex_9, ex_8, ex_7, ex_6, ex_5, ex_4, ex_3, ex_2, ex_1]
                        rfl
                      have hwh : r_10 = eTh (eSq p0 p1 p2) p2 20 0 := by rw [← hsq]; exact w_11
                      unfold eChip
                      rw [if_neg (fun h => by
                          have h9 := (lg_cmp_ge _ _).mp c_121
                          rw [ex_15, ex_14, ex_13, ex_12, hwh, hsq] at h9
                          exact Int64.not_lt.mpr h9 h.2), hwh]⟩, rfl⟩) d_E_chip_133 hlocks
                  · refine lv_iload hx hb d_E_chip_124 (lv_at hl 1 rfl) ?_
                    refine lv_iconst (v := 1) hx hb d_E_chip_126 (by decide) ?_
                    refine lv_iadd hx hb d_E_chip_127 ?_
                    refine lv_topi (fun x_16 ex_16 => ?_)
                    refine lv_goto (tgt := 133) hx hb d_E_chip_128 (by decide) ?_
                    refine W.widen (k := 1) (n := 6) (by omega) (by omega) ?_
                    refine vx_ret ?_
                    exact m_iret (v := x_16) hx hb hr hm (⟨⟨Or.inl c_2, fun h => h.elim c_22 (fun h => h.elim (fun h => Int32.not_lt.mpr c_28 h) (fun h => h.elim c_43 (fun h => h.elim c_50 (fun h => h.elim c_54 (fun h => Int32.not_lt.mpr c_59 h))))), by
                      have hsq : x_9 = eSq p0 p1 p2 := by
                        rw [ex_9, ex_8, ex_7, ex_6, ex_5, ex_4, ex_3, ex_2, ex_1]
                        rfl
                      have hwh : r_10 = eTh (eSq p0 p1 p2) p2 20 0 := by rw [← hsq]; exact w_11
                      unfold eChip
                      rw [if_pos ⟨c_110, by
                          have h9 := (lg_lt _ _).mp (Int32.not_le.mp c_121)
                          rw [ex_15, ex_14, ex_13, ex_12, hwh, hsq] at h9
                          exact h9⟩, ex_16, hwh]⟩, rfl⟩) d_E_chip_133 hlocks
              · exact m_throwS (cls := "java/lang/IllegalArgumentException") (text := "wide is not 1 .. 1000, or depth is not 0 .. wide") (names := ["java/lang/RuntimeException", "java/lang/Exception"]) (tx := mTx) hx hb hlt hown (by decide +kernel) (by decide +kernel) (hT _ k_202) (hT _ k_9) (by decide +kernel) hC (at_IllegalArgumentException hT hC.2.2.2) (good_IllegalArgumentException) hm (hl.1.trans hml.symm) d_E_chip_62 d_E_chip_65 d_E_chip_66 d_E_chip_68 d_E_chip_71 hout (Nat.le_of_ble_eq_true rfl) (Nat.le_of_ble_eq_true rfl) (Nat.le_of_ble_eq_true rfl) (Nat.le_of_ble_eq_true rfl) hlocks (⟨Or.inr ⟨rfl, Or.inl c_2, Or.inr (Or.inr (Or.inr (Or.inr (Or.inr ((Int32.not_le.mp c_59))))))⟩, rfl⟩) (Nat.le_of_ble_eq_true rfl) (Nat.le_of_ble_eq_true rfl)
      · exact m_throwS (cls := "java/lang/IllegalArgumentException") (text := "feed is not 0 .. 1000000") (names := ["java/lang/RuntimeException", "java/lang/Exception"]) (tx := mTx) hx hb hlt hown (by decide +kernel) (by decide +kernel) (hT _ k_202) (hT _ k_9) (by decide +kernel) hC (at_IllegalArgumentException hT hC.2.2.2) (good_IllegalArgumentException) hm (hl.1.trans hml.symm) d_E_chip_31 d_E_chip_34 d_E_chip_35 d_E_chip_37 d_E_chip_40 hout (Nat.le_of_ble_eq_true rfl) (Nat.le_of_ble_eq_true rfl) (Nat.le_of_ble_eq_true rfl) (Nat.le_of_ble_eq_true rfl) hlocks (⟨Or.inr ⟨rfl, Or.inl c_2, Or.inr (Or.inl (Int32.not_le.mp c_28))⟩, rfl⟩) (Nat.le_of_ble_eq_true rfl) (Nat.le_of_ble_eq_true rfl)
  · refine lv_iload hx hb d_E_chip_5 (lv_at hl 4 rfl) ?_
    refine lv_iconst (v := 1) hx hb d_E_chip_7 (by decide) ?_
    refine lv_icmp_eq (tgt := 21) hx hb d_E_chip_8 (by decide) (fun c_8 => ?_) (fun c_8 => ?_)
    · refine lv_iload_n hx hb d_E_chip_21 rfl (lv_at hl 1 rfl) ?_
      refine lv_if_lt (tgt := 31) hx hb d_E_chip_22 (by decide) (fun c_22 => ?_) (fun c_22 => ?_)
      · exact m_throwS (cls := "java/lang/IllegalArgumentException") (text := "feed is not 0 .. 1000000") (names := ["java/lang/RuntimeException", "java/lang/Exception"]) (tx := mTx) hx hb hlt hown (by decide +kernel) (by decide +kernel) (hT _ k_202) (hT _ k_9) (by decide +kernel) hC (at_IllegalArgumentException hT hC.2.2.2) (good_IllegalArgumentException) hm (hl.1.trans hml.symm) d_E_chip_31 d_E_chip_34 d_E_chip_35 d_E_chip_37 d_E_chip_40 hout (Nat.le_of_ble_eq_true rfl) (Nat.le_of_ble_eq_true rfl) (Nat.le_of_ble_eq_true rfl) (Nat.le_of_ble_eq_true rfl) hlocks (⟨Or.inr ⟨rfl, Or.inr c_8, Or.inl (c_22)⟩, rfl⟩) (Nat.le_of_ble_eq_true rfl) (Nat.le_of_ble_eq_true rfl)
      · refine lv_iload_n hx hb d_E_chip_25 rfl (lv_at hl 1 rfl) ?_
        refine lv_ldc (v := 1000000) hx hb hown (hT _ k_201) d_E_chip_26 ?_
        refine lv_icmp_le (tgt := 41) hx hb d_E_chip_28 (by decide) (fun c_28 => ?_) (fun c_28 => ?_)
        · refine lv_iload_n hx hb d_E_chip_41 rfl (lv_at hl 3 rfl) ?_
          refine lv_iconst (v := 1) hx hb d_E_chip_42 (by decide) ?_
          refine lv_icmp_lt (tgt := 62) hx hb d_E_chip_43 (by decide) (fun c_43 => ?_) (fun c_43 => ?_)
          · exact m_throwS (cls := "java/lang/IllegalArgumentException") (text := "wide is not 1 .. 1000, or depth is not 0 .. wide") (names := ["java/lang/RuntimeException", "java/lang/Exception"]) (tx := mTx) hx hb hlt hown (by decide +kernel) (by decide +kernel) (hT _ k_202) (hT _ k_9) (by decide +kernel) hC (at_IllegalArgumentException hT hC.2.2.2) (good_IllegalArgumentException) hm (hl.1.trans hml.symm) d_E_chip_62 d_E_chip_65 d_E_chip_66 d_E_chip_68 d_E_chip_71 hout (Nat.le_of_ble_eq_true rfl) (Nat.le_of_ble_eq_true rfl) (Nat.le_of_ble_eq_true rfl) (Nat.le_of_ble_eq_true rfl) hlocks (⟨Or.inr ⟨rfl, Or.inr c_8, Or.inr (Or.inr (Or.inl (c_43)))⟩, rfl⟩) (Nat.le_of_ble_eq_true rfl) (Nat.le_of_ble_eq_true rfl)
          · refine lv_iload_n hx hb d_E_chip_46 rfl (lv_at hl 3 rfl) ?_
            refine lv_sipush (v := 1000) hx hb d_E_chip_47 (by decide) ?_
            refine lv_icmp_gt (tgt := 62) hx hb d_E_chip_50 (by decide) (fun c_50 => ?_) (fun c_50 => ?_)
            · exact m_throwS (cls := "java/lang/IllegalArgumentException") (text := "wide is not 1 .. 1000, or depth is not 0 .. wide") (names := ["java/lang/RuntimeException", "java/lang/Exception"]) (tx := mTx) hx hb hlt hown (by decide +kernel) (by decide +kernel) (hT _ k_202) (hT _ k_9) (by decide +kernel) hC (at_IllegalArgumentException hT hC.2.2.2) (good_IllegalArgumentException) hm (hl.1.trans hml.symm) d_E_chip_62 d_E_chip_65 d_E_chip_66 d_E_chip_68 d_E_chip_71 hout (Nat.le_of_ble_eq_true rfl) (Nat.le_of_ble_eq_true rfl) (Nat.le_of_ble_eq_true rfl) (Nat.le_of_ble_eq_true rfl) hlocks (⟨Or.inr ⟨rfl, Or.inr c_8, Or.inr (Or.inr (Or.inr (Or.inl (c_50))))⟩, rfl⟩) (Nat.le_of_ble_eq_true rfl) (Nat.le_of_ble_eq_true rfl)
            · refine lv_iload_n hx hb d_E_chip_53 rfl (lv_at hl 2 rfl) ?_
              refine lv_if_lt (tgt := 62) hx hb d_E_chip_54 (by decide) (fun c_54 => ?_) (fun c_54 => ?_)
              · exact m_throwS (cls := "java/lang/IllegalArgumentException") (text := "wide is not 1 .. 1000, or depth is not 0 .. wide") (names := ["java/lang/RuntimeException", "java/lang/Exception"]) (tx := mTx) hx hb hlt hown (by decide +kernel) (by decide +kernel) (hT _ k_202) (hT _ k_9) (by decide +kernel) hC (at_IllegalArgumentException hT hC.2.2.2) (good_IllegalArgumentException) hm (hl.1.trans hml.symm) d_E_chip_62 d_E_chip_65 d_E_chip_66 d_E_chip_68 d_E_chip_71 hout (Nat.le_of_ble_eq_true rfl) (Nat.le_of_ble_eq_true rfl) (Nat.le_of_ble_eq_true rfl) (Nat.le_of_ble_eq_true rfl) hlocks (⟨Or.inr ⟨rfl, Or.inr c_8, Or.inr (Or.inr (Or.inr (Or.inr (Or.inl (c_54)))))⟩, rfl⟩) (Nat.le_of_ble_eq_true rfl) (Nat.le_of_ble_eq_true rfl)
              · refine lv_iload_n hx hb d_E_chip_57 rfl (lv_at hl 2 rfl) ?_
                refine lv_iload_n hx hb d_E_chip_58 rfl (lv_at hl 3 rfl) ?_
                refine lv_icmp_le (tgt := 72) hx hb d_E_chip_59 (by decide) (fun c_59 => ?_) (fun c_59 => ?_)
                · refine lv_ldc2 (v := 4) hx hb hown (hT _ k_469) d_E_chip_72 ?_
                  refine lv_iload_n hx hb d_E_chip_75 rfl (lv_at hl 1 rfl) ?_
                  refine lv_i2l hx hb d_E_chip_76 rfl ?_
                  refine lv_topl (fun x_17 ex_17 => ?_)
                  refine lv_lmul hx hb d_E_chip_77 ?_
                  refine lv_topl (fun x_18 ex_18 => ?_)
                  refine lv_iload_n hx hb d_E_chip_78 rfl (lv_at hl 1 rfl) ?_
                  refine lv_i2l hx hb d_E_chip_79 rfl ?_
                  refine lv_topl (fun x_19 ex_19 => ?_)
                  refine lv_lmul hx hb d_E_chip_80 ?_
                  refine lv_topl (fun x_20 ex_20 => ?_)
                  refine lv_iload_n hx hb d_E_chip_81 rfl (lv_at hl 2 rfl) ?_
                  refine lv_i2l hx hb d_E_chip_82 rfl ?_
                  refine lv_topl (fun x_21 ex_21 => ?_)
                  refine lv_lmul hx hb d_E_chip_83 ?_
                  refine lv_topl (fun x_22 ex_22 => ?_)
                  refine lv_iload_n hx hb d_E_chip_84 rfl (lv_at hl 3 rfl) ?_
                  refine lv_iload_n hx hb d_E_chip_85 rfl (lv_at hl 2 rfl) ?_
                  refine lv_isub hx hb d_E_chip_86 ?_
                  refine lv_topi (fun x_23 ex_23 => ?_)
                  refine lv_i2l hx hb d_E_chip_87 rfl ?_
                  refine lv_topl (fun x_24 ex_24 => ?_)
                  refine lv_lmul hx hb d_E_chip_88 ?_
                  refine lv_topl (fun x_25 ex_25 => ?_)
                  refine lv_lstore (lv' := [(5, .long x_25), (0, .ref (ad 0)), (1, .int p0), (2, .int p1), (3, .int p2), (4, .int p3)]) hx hb d_E_chip_89 hl (by decide) rfl (fun ls hl => ?_)
                  refine lv_lload hx hb d_E_chip_91 (lv_at hl 0 rfl) ?_
                  refine lv_iload_n hx hb d_E_chip_93 rfl (lv_at hl 4 rfl) ?_
                  refine m_roi (m_runS (As := [.long x_25, .int p2]) (rest := []) ⟨hx, hb, hml, hown, hts⟩ (c_E_wholeThickness l D dA ad G s.heap.size I J F si tc oc G0 hG ht x_25 p2) (va_cwS 2 hts (gS k_581 k_579 k_580 k_1) rfl rfl rfl (by decide +kernel) ⟨Nat.le_of_ble_eq_true rfl, Nat.le_of_ble_eq_true rfl⟩) hm hA hC rfl hl.1 rfl (Nat.le_of_ble_eq_true rfl) d_E_chip_94 ⟨Nat.le_of_ble_eq_true rfl, Nat.le_of_ble_eq_true rfl⟩) hm hA (fun r_26 H locs w_27 hm => ?_)
                  refine lv_istore (lv' := [(7, .int r_26), (5, .long x_25), (0, .ref (ad 0)), (1, .int p0), (2, .int p1), (3, .int p2), (4, .int p3)]) hx hb d_E_chip_97 hl (by decide) rfl (fun ls hl => ?_)
                  refine lv_iload hx hb d_E_chip_99 (lv_at hl 0 rfl) ?_
                  refine lv_i2l hx hb d_E_chip_101 rfl ?_
                  refine lv_topl (fun x_28 ex_28 => ?_)
                  refine lv_iload_n hx hb d_E_chip_102 rfl (lv_at hl 5 rfl) ?_
                  refine lv_i2l hx hb d_E_chip_103 rfl ?_
                  refine lv_topl (fun x_29 ex_29 => ?_)
                  refine lv_lmul hx hb d_E_chip_104 ?_
                  refine lv_topl (fun x_30 ex_30 => ?_)
                  refine lv_lstore (lv' := [(8, .long x_30), (7, .int r_26), (5, .long x_25), (0, .ref (ad 0)), (1, .int p0), (2, .int p1), (3, .int p2), (4, .int p3)]) hx hb d_E_chip_105 hl (by decide) rfl (fun ls hl => ?_)
                  refine lv_iload hx hb d_E_chip_107 (lv_at hl 7 rfl) ?_
                  refine lv_iconst (v := 1) hx hb d_E_chip_109 (by decide) ?_
                  refine lv_icmp_ne (tgt := 131) hx hb d_E_chip_110 (by decide) (fun c_110 => ?_) (fun c_110 => ?_)
                  · refine lv_iload hx hb d_E_chip_131 (lv_at hl 1 rfl) ?_
                    refine W.widen (k := 1) (n := 6) (by omega) (by omega) ?_
                    refine vx_ret ?_
                    exact m_iret (v := r_26) hx hb hr hm (⟨⟨Or.inr c_8, fun h => h.elim c_22 (fun h => h.elim (fun h => Int32.not_lt.mpr c_28 h) (fun h => h.elim c_43 (fun h => h.elim c_50 (fun h => h.elim c_54 (fun h => Int32.not_lt.mpr c_59 h))))), by
                      have hsq : x_25 = eSq p0 p1 p2 := by
                        rw [ex_25, ex_24, ex_23, ex_22, ex_21, ex_20, ex_19, ex_18, ex_17]
                        rfl
                      have hwh : r_26 = eTh (eSq p0 p1 p2) p2 20 0 := by rw [← hsq]; exact w_27
                      unfold eChip
                      rw [if_neg (fun h => c_110 h.1), hwh]⟩, rfl⟩) d_E_chip_133 hlocks
                  · refine lv_lload hx hb d_E_chip_113 (lv_at hl 0 rfl) ?_
                    refine lv_lload hx hb d_E_chip_115 (lv_at hl 0 rfl) ?_
                    refine lv_lmul hx hb d_E_chip_117 ?_
                    refine lv_topl (fun x_31 ex_31 => ?_)
                    refine lv_lload hx hb d_E_chip_118 (lv_at hl 2 rfl) ?_
                    refine W.lcmp hx hb d_E_chip_120 ?_
                    refine lv_if_ge (tgt := 131) hx hb d_E_chip_121 (by decide) (fun c_121 => ?_) (fun c_121 => ?_)
                    · refine lv_iload hx hb d_E_chip_131 (lv_at hl 1 rfl) ?_
                      refine W.widen (k := 1) (n := 6) (by omega) (by omega) ?_
                      refine vx_ret ?_
                      exact m_iret (v := r_26) hx hb hr hm (⟨⟨Or.inr c_8, fun h => h.elim c_22 (fun h => h.elim (fun h => Int32.not_lt.mpr c_28 h) (fun h => h.elim c_43 (fun h => h.elim c_50 (fun h => h.elim c_54 (fun h => Int32.not_lt.mpr c_59 h))))), by
                        have hsq : x_25 = eSq p0 p1 p2 := by
                          rw [ex_25, ex_24, ex_23, ex_22, ex_21, ex_20, ex_19, ex_18, ex_17]
                          rfl
                        have hwh : r_26 = eTh (eSq p0 p1 p2) p2 20 0 := by rw [← hsq]; exact w_27
                        unfold eChip
                        rw [if_neg (fun h => by
                            have h9 := (lg_cmp_ge _ _).mp c_121
                            rw [ex_31, ex_30, ex_29, ex_28, hwh, hsq] at h9
                            exact Int64.not_lt.mpr h9 h.2), hwh]⟩, rfl⟩) d_E_chip_133 hlocks
                    · refine lv_iload hx hb d_E_chip_124 (lv_at hl 1 rfl) ?_
                      refine lv_iconst (v := 1) hx hb d_E_chip_126 (by decide) ?_
                      refine lv_iadd hx hb d_E_chip_127 ?_
                      refine lv_topi (fun x_32 ex_32 => ?_)
                      refine lv_goto (tgt := 133) hx hb d_E_chip_128 (by decide) ?_
                      refine W.widen (k := 1) (n := 6) (by omega) (by omega) ?_
                      refine vx_ret ?_
                      exact m_iret (v := x_32) hx hb hr hm (⟨⟨Or.inr c_8, fun h => h.elim c_22 (fun h => h.elim (fun h => Int32.not_lt.mpr c_28 h) (fun h => h.elim c_43 (fun h => h.elim c_50 (fun h => h.elim c_54 (fun h => Int32.not_lt.mpr c_59 h))))), by
                        have hsq : x_25 = eSq p0 p1 p2 := by
                          rw [ex_25, ex_24, ex_23, ex_22, ex_21, ex_20, ex_19, ex_18, ex_17]
                          rfl
                        have hwh : r_26 = eTh (eSq p0 p1 p2) p2 20 0 := by rw [← hsq]; exact w_27
                        unfold eChip
                        rw [if_pos ⟨c_110, by
                            have h9 := (lg_lt _ _).mp (Int32.not_le.mp c_121)
                            rw [ex_31, ex_30, ex_29, ex_28, hwh, hsq] at h9
                            exact h9⟩, ex_32, hwh]⟩, rfl⟩) d_E_chip_133 hlocks
                · exact m_throwS (cls := "java/lang/IllegalArgumentException") (text := "wide is not 1 .. 1000, or depth is not 0 .. wide") (names := ["java/lang/RuntimeException", "java/lang/Exception"]) (tx := mTx) hx hb hlt hown (by decide +kernel) (by decide +kernel) (hT _ k_202) (hT _ k_9) (by decide +kernel) hC (at_IllegalArgumentException hT hC.2.2.2) (good_IllegalArgumentException) hm (hl.1.trans hml.symm) d_E_chip_62 d_E_chip_65 d_E_chip_66 d_E_chip_68 d_E_chip_71 hout (Nat.le_of_ble_eq_true rfl) (Nat.le_of_ble_eq_true rfl) (Nat.le_of_ble_eq_true rfl) (Nat.le_of_ble_eq_true rfl) hlocks (⟨Or.inr ⟨rfl, Or.inr c_8, Or.inr (Or.inr (Or.inr (Or.inr (Or.inr ((Int32.not_le.mp c_59))))))⟩, rfl⟩) (Nat.le_of_ble_eq_true rfl) (Nat.le_of_ble_eq_true rfl)
        · exact m_throwS (cls := "java/lang/IllegalArgumentException") (text := "feed is not 0 .. 1000000") (names := ["java/lang/RuntimeException", "java/lang/Exception"]) (tx := mTx) hx hb hlt hown (by decide +kernel) (by decide +kernel) (hT _ k_202) (hT _ k_9) (by decide +kernel) hC (at_IllegalArgumentException hT hC.2.2.2) (good_IllegalArgumentException) hm (hl.1.trans hml.symm) d_E_chip_31 d_E_chip_34 d_E_chip_35 d_E_chip_37 d_E_chip_40 hout (Nat.le_of_ble_eq_true rfl) (Nat.le_of_ble_eq_true rfl) (Nat.le_of_ble_eq_true rfl) (Nat.le_of_ble_eq_true rfl) hlocks (⟨Or.inr ⟨rfl, Or.inr c_8, Or.inr (Or.inl (Int32.not_le.mp c_28))⟩, rfl⟩) (Nat.le_of_ble_eq_true rfl) (Nat.le_of_ble_eq_true rfl)
    · exact m_throwS (cls := "java/lang/IndexOutOfBoundsException") (text := "no such end") (names := ["java/lang/RuntimeException", "java/lang/Exception"]) (tx := mTx) hx hb hlt hown (by decide +kernel) (by decide +kernel) (hT _ k_133) (hT _ k_8) (by decide +kernel) hC (at_IndexOutOfBoundsException hT hC.2.2.2) (good_IndexOutOfBoundsException) hm (hl.1.trans hml.symm) d_E_chip_11 d_E_chip_14 d_E_chip_15 d_E_chip_17 d_E_chip_20 hout (Nat.le_of_ble_eq_true rfl) (Nat.le_of_ble_eq_true rfl) (Nat.le_of_ble_eq_true rfl) (Nat.le_of_ble_eq_true rfl) hlocks (⟨Or.inl ⟨rfl, fun h => h.elim c_2 c_8⟩, rfl⟩) (Nat.le_of_ble_eq_true rfl) (Nat.le_of_ble_eq_true rfl)
end
